theorem bx_sa {t a : Nat} (ht : t < 1024) (ha : a < 5) : bxN t (slA (saN a)) = 5 * t + saN a := by
  unfold bxN slA
  have hs : saN a < 5 := (sa_sl ha).2
  by_cases c : saN a = 0
  · rw [if_pos c, c]
    have e : nI (5 * t + 1) + -1 = nI (5 * t) := by
      have h1 : nI (5 * t + 1) = nI (5 * t) + nI 1 := Int32.ofNat_add _ _
      rw [h1, Int32.add_assoc, show (nI 1 : Int32) + -1 = 0 by decide, Int32.add_zero]
    rw [e]; exact nI_clamp (by omega)
  · rw [if_neg c, show nI (5 * t + 1) + nI (saN a - 1) = nI (5 * t + 1 + (saN a - 1)) from (Int32.ofNat_add _ _).symm, nI_clamp (by omega)]; omega
/-- the letters of the best order, one by one -/
theorem ord_let {I X : mI} {o ko nl A h : Nat} {wo u : Int32} {w : r5} {B0 : Nat → Int32} (H : OH I o X ko nl) (hA : ∀ l, A.testBit l = true ↔ l < nl ∧ I (o + 2) l = nI h ∧ ¬ nI l = wo) (hw : ∀ j, j < 5 → w.2.2.2.2 j = 0) : ∀ k, k ≤ (grT I o h nl wo (sgU u) w.2.1 w.2.2.1 w.2.2.2.1).1 → ∃ t' a t x, laN (moR I o nl h wo (sgU u) w) (grT I o h nl wo (sgU u) w.2.1 w.2.2.1 w.2.2.2.1).1 (2 ^ (grT I o h nl wo (sgU u) w.2.1 w.2.2.1 w.2.2.2.1).1 - 1, 4) k = (t', a) ∧ (oaN X ko nl (foN X ko nl (nI A) u B0 1024) (A, -1, -1) k).1 = t ∧ (oaN X ko nl (foN X ko nl (nI A) u B0 1024) (A, -1, -1) k).2.1 = x ∧ relT (grT I o h nl wo (sgU u) w.2.1 w.2.2.1 w.2.2.2.1) t' t ∧ t &&& A = t ∧ a < 5 ∧ x = slA (saN a) ∧ onesN (nI t') 10 + k = (grT I o h nl wo (sgU u) w.2.1 w.2.2.1 w.2.2.2.1).1 ∧ (k < (grT I o h nl wo (sgU u) w.2.1 w.2.2.1 w.2.2.2.1).1 → oaK X ko nl (foN X ko nl (nI A) u B0 1024) (oaN X ko nl (foN X ko nl (nI A) u B0 1024) (A, -1, -1) k) ∧ (grT I o h nl wo (sgU u) w.2.1 w.2.2.1 w.2.2.2.1).2.1 (fpN (fpC (moR I o nl h wo (sgU u) w) t' a) (grT I o h nl wo (sgU u) w.2.1 w.2.2.1 w.2.2.2.1).1 0) = (oaN X ko nl (foN X ko nl (nI A) u B0 1024) (A, -1, -1) (k + 1)).2.2) := by
  have h10 := H.1
  have hp : 2 ^ nl ≤ 2 ^ 10 := Nat.pow_le_pow_right (by decide) h10
  have hAn : A < 2 ^ nl := Nat.lt_pow_two_of_testBit _ (fun i hi => by
    cases c : A.testBit i
    · rfl
    · exact absurd ((hA i).mp c).1 (by omega))
  have G := gr_k (I := I) (o := o) (h := h) (wo := wo) (sg := sgU u) (g := w.2.1) (k0 := w.2.2.1) (dg := w.2.2.2.1) nl h10
  have hon := sz_on (I := I) (o := o) (h := h) (wo := wo) (sg := sgU u) (s0 := (0, w.2.1, w.2.2.1, w.2.2.2.1)) (A := A) rfl h10 hA nl (Nat.le_refl _)
  have G : GR I o h wo (sgU u) (grT I o h nl wo (sgU u) w.2.1 w.2.2.1 w.2.2.2.1) nl := G
  have hkey : ∀ {t' t a i : Nat}, relT (grT I o h nl wo (sgU u) w.2.1 w.2.2.1 w.2.2.2.1) t' t → t &&& A = t → a < 5 → i < (grT I o h nl wo (sgU u) w.2.1 w.2.2.1 w.2.2.2.1).1 → ¬ f_has (nI t') (nI i) = 0 → ((grT I o h nl wo (sgU u) w.2.1 w.2.2.1 w.2.2.2.1).2.2.2 (5 * i + a) + mgT (grT I o h nl wo (sgU u) w.2.1 w.2.2.1 w.2.2.2.1) w.2.2.2.2 (5 * rmN t' i + hmN (grT I o h nl wo (sgU u) w.2.1 w.2.2.1 w.2.2.2.1).2.2.1 i) = mgT (grT I o h nl wo (sgU u) w.2.1 w.2.2.1 w.2.2.2.1) w.2.2.2.2 (5 * t' + a) ↔ obR X ko (foN X ko nl (nI A) u B0 1024) t (hmN (grT I o h nl wo (sgU u) w.2.1 w.2.2.1 w.2.2.2.1).2.1 i) (slA (saN a)) = foN X ko nl (nI A) u B0 1024 (5 * t + saN a)) := fun r s ha hi hb => ord_key (u := u) (B0 := B0) (ga := w.2.2.2.2) H hAn G hw r s ha hi hb
  have hbo := bo_k (u := u) (B0 := B0) H hAn
  have hmq : moR I o nl h wo (sgU u) w = (va_up w.1 2 (nI (grT I o h nl wo (sgU u) w.2.1 w.2.2.1 w.2.2.2.1).1), (grT I o h nl wo (sgU u) w.2.1 w.2.2.1 w.2.2.2.1).2.1, (grT I o h nl wo (sgU u) w.2.1 w.2.2.1 w.2.2.2.1).2.2.1, (grT I o h nl wo (sgU u) w.2.1 w.2.2.1 w.2.2.2.1).2.2.2, mgT (grT I o h nl wo (sgU u) w.2.1 w.2.2.1 w.2.2.2.1) w.2.2.2.2) := rfl
  rw [hmq]
  have hon : (grT I o h nl wo (sgU u) w.2.1 w.2.2.1 w.2.2.2.1).1 = onesN (nI A) nl := hon
  generalize grT I o h nl wo (sgU u) w.2.1 w.2.2.1 w.2.2.2.1 = q at G hon hkey
  generalize mgT q w.2.2.2.2 = M at hkey
  generalize va_up w.1 2 (nI q.1) = r1
  generalize hBB : foN X ko nl (nI A) u B0 1024 = B at hkey hbo
  have hsz := G.sz
  have hp2 : 2 ^ q.1 ≤ 2 ^ 10 := Nat.pow_le_pow_right (by decide) (by omega)
  have hp3 : 0 < 2 ^ q.1 := Nat.pow_pos (by decide)
  obtain ⟨hh10, hW, hd⟩ := H
  -- one step
  have step : ∀ t' a (s : oaT), relT q t' s.1 → s.1 &&& A = s.1 → a < 5 → s.2.1 = slA (saN a) → 0 < t' → oaK X ko nl B s ∧ ∃ i, i < q.1 ∧ ¬ f_has (nI t') (nI i) = 0 ∧ fpN (fpC (r1, q.2.1, q.2.2.1, q.2.2.2, M) t' a) q.1 0 = i ∧ woN X ko nl B s = hmN q.2.1 i ∧ q.2.1 i = nI (hmN q.2.1 i) ∧ hmN q.2.2.1 i = kdN X ko (hmN q.2.1 i) := by
    intro t' a s hrel hsA ha hx ht0
    obtain ⟨ra, rb, rc⟩ := hrel
    have hsA2 : s.1 ≤ A := by have := Nat.and_le_right (n := s.1) (m := A); rw [hsA] at this; exact this
    have sl2 := (sa_sl ha).2
    have tpos : 0 < s.1 := by
      obtain ⟨i, hi, hb⟩ := has_ex (t := t') (n := q.1) ht0 rb (by omega)
      have := (rc (hmN q.2.1 i) (by have := (G.el i hi).1; omega)).mpr ⟨i, hi, (hasT (by omega)).mp hb, rfl⟩
      rcases Nat.eq_zero_or_pos s.1 with z | z
      · rw [z, Nat.zero_testBit] at this; exact absurd this (by decide)
      · exact z
    obtain ⟨⟨l0, d1, d2, d3⟩, _⟩ := (hbo s.1 hsA (saN a) sl2).2.1 tpos
    have hv : B (bxN s.1 s.2.1) = B (5 * s.1 + saN a) := by rw [hx, bx_sa ra ha]
    obtain ⟨l, l1, l2, l3, l4⟩ := whN_1 (X := X) (ko := ko) (B := B) (t := s.1) (x := s.2.1) (v := B (bxN s.1 s.2.1)) nl (-1) ⟨l0, d1, d2, by rw [hv, hx]; exact d3⟩
    have ewo : woN X ko nl B s = l := by
      unfold woN whO; rw [l4]; exact nI_clamp (by omega)
    have hmem : ∀ j, j < q.1 → ((fpC (r1, q.2.1, q.2.2.1, q.2.2.2, M) t' a j = true) ↔ (¬ f_has (nI t') (nI j) = 0 ∧ whP X ko B s.1 s.2.1 (B (bxN s.1 s.2.1)) (hmN q.2.1 j))) := fun j hj => by
      unfold fpC
      rw [decide_eq_true_iff]
      constructor
      · rintro ⟨b1, b2⟩
        refine ⟨b1, (hasT (by have := (G.el j hj).1; omega)).mpr ((rc _ (by have := (G.el j hj).1; omega)).mpr ⟨j, hj, (hasT (by omega)).mp b1, rfl⟩), ?_⟩
        rw [hv, hx]; exact (hkey ⟨ra, rb, rc⟩ hsA ha hj b1).mp b2
      · rintro ⟨b1, b2, b3⟩
        refine ⟨b1, ?_⟩
        rw [hv, hx] at b3
        exact (hkey ⟨ra, rb, rc⟩ hsA ha hj b1).mpr b3
    obtain ⟨i1, g1, g2, g3⟩ := (rc l (by omega)).mp ((hasT (by omega)).mp l2.1)
    obtain ⟨f1, f2, f3, f4⟩ := fpN_1 (c := fpC (r1, q.2.1, q.2.2.1, q.2.2.2, M) t' a) q.1 0 ⟨i1, by omega, by omega, (hmem i1 g1).mpr ⟨(hasT (by omega)).mpr g2, by rw [g3]; exact l2⟩⟩
    have hi0 : fpN (fpC (r1, q.2.1, q.2.2.1, q.2.2.2, M) t' a) q.1 0 < q.1 := by omega
    obtain ⟨m1, m2⟩ := (hmem _ hi0).mp f3
    have hi1 : fpN (fpC (r1, q.2.1, q.2.2.1, q.2.2.2, M) t' a) q.1 0 = i1 := by
      rcases Nat.lt_trichotomy (fpN (fpC (r1, q.2.1, q.2.2.1, q.2.2.2, M) t' a) q.1 0) i1 with z | z | z
      · have y := G.inc _ i1 z g1
        rw [g3] at y
        exact absurd m2 (l3 _ y)
      · exact z
      · exact absurd ((hmem i1 g1).mpr ⟨(hasT (by omega)).mpr g2, by rw [g3]; exact l2⟩) (f4 i1 (by omega) z)
    obtain ⟨a1, a2, _, _, a5, _⟩ := G.el i1 g1
    have hk4 := (hW (hmN q.2.1 i1) (by omega)).2
    refine ⟨⟨ra, by rw [hx]; exact kOK_sl sl2, ?_, by rw [ewo]; exact l1⟩, i1, g1, (hasT (by omega)).mpr g2, hi1, by rw [ewo, g3], a2, ?_⟩
    · rw [ewo]; exact l4
    · show (q.2.2.1 i1).toNatClampNeg = kdN X ko (hmN q.2.1 i1)
      rw [a5, (hd _ a1).1]; exact nI_clamp (by omega)
  have pos : ∀ t' k, onesN (nI t') 10 + k = q.1 → k < q.1 → 0 < t' := fun t' k e hk => by
    rcases Nat.eq_zero_or_pos t' with z | z
    · subst z
      rw [show onesN (nI 0) 10 = 0 by decide] at e; omega
    · exact z
  intro k
  induction k with
  | zero =>
    intro _
    have hrel : relT q (2 ^ q.1 - 1) A := by
      refine ⟨by omega, by omega, fun l hl => ?_⟩
      rw [hA l]
      constructor
      · rintro ⟨a1, a2, a3⟩
        obtain ⟨i, b1, b2⟩ := G.su l a1 a2 a3
        exact ⟨i, b1, by rw [all_bt]; exact decide_eq_true b1, b2⟩
      · rintro ⟨i, b1, _, b3⟩
        obtain ⟨c1, _, c3, c4, _⟩ := G.el i b1
        rw [b3] at c1 c3 c4
        exact ⟨c1, c3, c4⟩
    have e4 : (-1 : Int32) = slA (saN 4) := rfl
    have eo : onesN (nI (2 ^ q.1 - 1)) 10 + 0 = q.1 := ones_p q.1 (by omega)
    refine ⟨2 ^ q.1 - 1, 4, A, -1, rfl, rfl, rfl, hrel, Nat.and_self A, by decide, e4, eo, fun hk => ?_⟩
    obtain ⟨s1_, i, i1, i2, i3, i4, i5, _⟩ := step (2 ^ q.1 - 1) 4 (A, -1, -1) hrel (Nat.and_self A) (by decide) e4 (pos _ 0 eo hk)
    refine ⟨s1_, ?_⟩
    rw [i3, i5]
    show nI (hmN q.2.1 i) = nI (woN X ko nl B (A, -1, -1))
    rw [i4]
  | succ k ih =>
    intro hk
    obtain ⟨t', a, t, x, e1, e2, e3, e4, e5, e6, e7, e8, _⟩ := ih (by omega)
    have hrel : relT q t' (oaN X ko nl B (A, -1, -1) k).1 := by rw [e2]; exact e4
    have hsub : (oaN X ko nl B (A, -1, -1) k).1 &&& A = (oaN X ko nl B (A, -1, -1) k).1 := by rw [e2]; exact e5
    obtain ⟨_, i, i1, i2, i3, i4, i5, i6⟩ := step t' a (oaN X ko nl B (A, -1, -1) k) hrel hsub e6 (e3.trans e7) (pos t' k e8 (by omega))
    have hl10 : hmN q.2.1 i < 10 := by have := (G.el i i1).1; omega
    have hk4 := (hW _ hl10).2
    have f1 : laN (r1, q.2.1, q.2.2.1, q.2.2.2, M) q.1 (2 ^ q.1 - 1, 4) (k + 1) = (rmN t' i, hmN q.2.2.1 i) := by
      show laNS (r1, q.2.1, q.2.2.1, q.2.2.2, M) q.1 k (laN (r1, q.2.1, q.2.2.1, q.2.2.2, M) q.1 (2 ^ q.1 - 1, 4) k) = _
      rw [e1]; unfold laNS; rw [i3]
    have f2 : (oaN X ko nl B (A, -1, -1) (k + 1)).1 = rmN t (hmN q.2.1 i) := by
      show rmN (oaN X ko nl B (A, -1, -1) k).1 (woN X ko nl B (oaN X ko nl B (A, -1, -1) k)) = _
      rw [e2, i4]
    have f3 : (oaN X ko nl B (A, -1, -1) (k + 1)).2.1 = slA (saN (hmN q.2.2.1 i)) := by
      show oR X ko (19 + woN X ko nl B (oaN X ko nl B (A, -1, -1) k)) = _
      rw [i4, i6, (hW _ hl10).1]
      unfold slA saN
      rw [if_neg (show ¬ kdN X ko (hmN q.2.1 i) = 4 by omega), if_neg (by omega)]; rfl
    have hb9 : t' < 1024 := by have := e4.2.1; omega
    have g1 := relT_rm G h10 e4 i1 i2
    have g2 := rm_sub (t := t) (A := A) (i := hmN q.2.1 i) (by omega) (by have := e4.1; omega) e5
    have g3 : onesN (nI (rmN t' i)) 10 + (k + 1) = q.1 := by have := on_rm (t := t') (i := i) (by omega) hb9 i2; omega
    refine ⟨rmN t' i, hmN q.2.2.1 i, rmN t (hmN q.2.1 i), slA (saN (hmN q.2.2.1 i)), f1, f2, f3, g1, g2, by rw [i6]; omega, rfl, g3, fun hk2 => ?_⟩
    obtain ⟨s1_, j, j1, j2, j3, j4, j5, _⟩ := step (rmN t' i) (hmN q.2.2.1 i) (oaN X ko nl B (A, -1, -1) (k + 1)) (by rw [f2]; exact g1) (by rw [f2]; exact g2) (by rw [i6]; omega) f3 (pos _ (k + 1) g3 hk2)
    refine ⟨s1_, ?_⟩
    rw [j3, j5]
    show nI (hmN q.2.1 j) = nI (woN X ko nl B (oaN X ko nl B (A, -1, -1) (k + 1)))
    rw [j4]
