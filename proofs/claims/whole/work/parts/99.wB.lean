theorem le_add0 {a x : Int32} {A B : Nat} (ha : bnI a A) (hx : bnI x B) (h : A + B < 2 ^ 31) : a ≤ a + x ↔ 0 ≤ x := by
  have e := (bn_add ha hx h).1
  rw [Int32.le_iff_toInt_le, Int32.le_iff_toInt_le, e]
  show _ ↔ (0 : Int) ≤ x.toInt
  omega
/-- one way of straying: the class's changes against the reference's moods -/
theorem RO.ph {I K : mI} {o ko nh nl nw k w : Nat} {f : Nat → Int32} {s0 : g3} (H : RO I K o ko nh nl nw) : ∀ m l (ch ls : Nat → Int32), l + m = nl → (∀ j, j < 6 → (acN (dsA K ko) (fun l => oR K ko (19 + l)) (hmN (fbA (hdI (cdI K) ko) nh (nI k) (w, f) nl).2) s0 l).1 j = oR K ko (3 + j) + ch j ∧ (acN (dsA K ko) (fun l => oR K ko (19 + l)) (hmN (fbA (hdI (cdI K) ko) nh (nI k) (w, f) nl).2) s0 l).2.1 j = ls j ∧ _root_.Jvm.Pilot.CSortedOfficeLaw_law_r7817_abba98.kOK (ls j) ∧ bnI (ch j) (81 * l)) → gPh (gSt (dsO I o) (I (o + 3))) (hmN (I (o + 2))) nh (gLf nh) m l (k / 2 ^ l) (fbA (hdI (cdI K) ko) nh (nI k) (w, f) l).1 (ch, ls) = if ∀ h, h < nh → oR K ko (3 + h) ≤ (acN (dsA K ko) (fun l => oR K ko (19 + l)) (hmN (fbA (hdI (cdI K) ko) nh (nI k) (w, f) nl).2) s0 nl).1 h then 1 else 0 := by
  have h6 := H.2.nh6
  have h10 := H.2.l10
  have h1 := H.2.nh1
  intro m
  induction m with
  | zero =>
    intro l ch ls hl hi
    rw [show l = nl by omega] at hi
    show (if ∀ h, h < nh → 0 ≤ ch h then 1 else 0) = _
    have key : (∀ h, h < nh → 0 ≤ ch h) ↔ ∀ h, h < nh → oR K ko (3 + h) ≤ (acN (dsA K ko) (fun l => oR K ko (19 + l)) (hmN (fbA (hdI (cdI K) ko) nh (nI k) (w, f) nl).2) s0 nl).1 h := by
      have q : ∀ h, h < nh → (oR K ko (3 + h) ≤ (acN (dsA K ko) (fun l => oR K ko (19 + l)) (hmN (fbA (hdI (cdI K) ko) nh (nI k) (w, f) nl).2) s0 nl).1 h ↔ 0 ≤ ch h) := fun h hh => by
        obtain ⟨e1, _, _, e4⟩ := hi h (by omega)
        rw [e1]
        obtain ⟨a, ha, ea⟩ := H.2.mo h (by omega)
        rw [ea]
        exact le_add0 (bn_nI (B := 50) ha (by decide)) e4 (by omega)
      exact ⟨fun x h hh => (q h hh).mpr (x h hh), fun x h hh => (q h hh).mp (x h hh)⟩
    by_cases c : ∀ h, h < nh → 0 ≤ ch h
    · rw [if_pos c, if_pos (key.mp c)]
    · rw [if_neg c, if_neg (fun x => c (key.mpr x))]
  | succ m ih =>
    intro l ch ls hl hi
    obtain ⟨d1, d2⟩ := dv2 (k := k) (l := l)
    have hr := fbA_r (X := hdI (cdI K) ko) (nh := nh) (k := k) (w := w) (f := f) (l := l) nl h10 (by omega)
    have hs := fbA_s (X := hdI (cdI K) ko) (nh := nh) (k := k) (w := w) (f := f) (m := l) (by omega)
    have go : ∀ hv, hv < 6 → hmN (fbA (hdI (cdI K) ko) nh (nI k) (w, f) nl).2 l = hv → ∀ j, j < 6 → (acN (dsA K ko) (fun l => oR K ko (19 + l)) (hmN (fbA (hdI (cdI K) ko) nh (nI k) (w, f) nl).2) s0 (l + 1)).1 j = oR K ko (3 + j) + brC (dsO I o) l hv ch ls j ∧ (acN (dsA K ko) (fun l => oR K ko (19 + l)) (hmN (fbA (hdI (cdI K) ko) nh (nI k) (w, f) nl).2) s0 (l + 1)).2.1 j = brL (I (o + 3)) l hv ls j ∧ _root_.Jvm.Pilot.CSortedOfficeLaw_law_r7817_abba98.kOK (brL (I (o + 3)) l hv ls j) ∧ bnI (brC (dsO I o) l hv ch ls j) (81 * (l + 1)) := by
      intro hv h5 eh j hj
      obtain ⟨i1, i2, i3, i4⟩ := hi hv h5
      obtain ⟨k1, k2, k3, k4⟩ := hi j hj
      show va_up _ (hmN (fbA (hdI (cdI K) ko) nh (nI k) (w, f) nl).2 l) _ j = _ ∧ va_up _ (hmN (fbA (hdI (cdI K) ko) nh (nI k) (w, f) nl).2 l) _ j = _ ∧ _
      rw [eh, i1, i2]
      unfold brC brL
      by_cases c : j = hv
      · subst c
        have e := H.ds (l := l) (by omega) i3
        rw [vup_eq, vup_eq, vup_eq, vup_eq, e]
        refine ⟨Int32.add_assoc _ _ _, (H.kd (by omega)).symm, by rw [H.kd (by omega)]; exact H.kOK (by omega), ?_⟩
        have := (bn_add i4 (ds_b H.2 (l := l) (by omega) i3) (by omega)).2
        rw [show 81 * (l + 1) = 81 * l + 81 by omega]; exact this
      · rw [vup_ne c, vup_ne c, vup_ne c, vup_ne c]
        exact ⟨k1, k2, k3, bn_mono k4 (by omega)⟩
    show (if k / 2 ^ l % 2 = 0 then gPh (gSt (dsO I o) (I (o + 3))) (hmN (I (o + 2))) nh (gLf nh) m (l + 1) (k / 2 ^ l / 2) (fbA (hdI (cdI K) ko) nh (nI k) (w, f) l).1 (brC (dsO I o) l (hmN (I (o + 2)) l) ch ls, brL (I (o + 3)) l (hmN (I (o + 2)) l) ls) else gPh (gSt (dsO I o) (I (o + 3))) (hmN (I (o + 2))) nh (gLf nh) m (l + 1) (k / 2 ^ l / 2) ((fbA (hdI (cdI K) ko) nh (nI k) (w, f) l).1 / nh) (brC (dsO I o) l ((fbA (hdI (cdI K) ko) nh (nI k) (w, f) l).1 % nh) ch ls, brL (I (o + 3)) l ((fbA (hdI (cdI K) ko) nh (nI k) (w, f) l).1 % nh) ls)) = _
    by_cases c : k.testBit l = true
    · rw [if_pos c] at hr hs
      have hlt := Nat.mod_lt (fbA (hdI (cdI K) ko) nh (nI k) (w, f) l).1 h1
      rw [if_neg (fun q => d2.mp q c), d1, ← show (fbA (hdI (cdI K) ko) nh (nI k) (w, f) (l + 1)).1 = (fbA (hdI (cdI K) ko) nh (nI k) (w, f) l).1 / nh by rw [hs]]
      refine ih (l + 1) _ _ (by omega) (go _ (by omega) ?_)
      show Int32.toNatClampNeg _ = _
      rw [hr]; exact nI_clamp (by omega)
    · rw [if_neg c] at hr hs
      rw [if_pos (d2.mpr c), d1, ← show (fbA (hdI (cdI K) ko) nh (nI k) (w, f) (l + 1)).1 = (fbA (hdI (cdI K) ko) nh (nI k) (w, f) l).1 by rw [hs]]
      refine ih (l + 1) _ _ (by omega) (go _ ((H.WFh.hm (l := l) (by omega)).2) ?_)
      show Int32.toNatClampNeg _ = Int32.toNatClampNeg _
      rw [hr, hm_hd (by omega), H.1.ho l (by omega)]
abbrev phX (I : mI) (o nh nl k w : Nat) : Nat := gPh (gSt (dsO I o) (I (o + 3))) (hmN (I (o + 2))) nh (gLf nh) nl 0 k w (m_fill (fun _ => 0) (I 93) 6, m_fill (fun _ => -1) (I 94) 6)
theorem RO.fb {I K : mI} {o ko nh nl nw k : Nat} {f md ls cm : Nat → Int32} (H : RO I K o ko nh nl nw) : ∀ W, (fbB (hdI (cdI K) ko) ko nh nl (nI k) (0, f, md, ls, cm) W).1 = smZ (fun w => phX I o nh nl k w) W := by
  intro W
  induction W with
  | zero => rfl
  | succ W ih =>
    show (fbBS (hdI (cdI K) ko) ko nh nl (nI k) W (fbB (hdI (cdI K) ko) ko nh nl (nI k) (0, f, md, ls, cm) W)).1 = smZ (fun w => phX I o nh nl k w) W + phX I o nh nl k W
    rw [← ih]
    generalize fbB (hdI (cdI K) ko) ko nh nl (nI k) (0, f, md, ls, cm) W = s
    have e := H.ph (k := k) (w := W) (f := s.2.1) (s0 := bg3 (hdI (cdI K) ko) ko s.2.2.1 s.2.2.2.1 s.2.2.2.2) nl 0 (m_fill (fun _ => 0) (I 93) 6) (m_fill (fun _ => -1) (I 94) 6) (by omega) (fun j hj => by
      refine ⟨?_, ?_, ?_, ?_⟩
      · show m_fill (fun h => oR K ko (3 + h)) s.2.2.1 6 j = _
        unfold m_fill; rw [if_pos hj, if_pos hj]; exact (Int32.add_zero _).symm
      · show m_fill (fun _ => -1) s.2.2.2.1 6 j = _
        unfold m_fill; rw [if_pos hj, if_pos hj]
      · unfold m_fill; rw [if_pos hj]; exact Or.inl rfl
      · unfold m_fill; rw [if_pos hj]; exact Nat.zero_le _)
    rw [Nat.pow_zero, Nat.div_one] at e
    have e2 : phX I o nh nl k W = if ∀ h, h < nh → oR K ko (3 + h) ≤ (acN (dsA K ko) (fun l => oR K ko (19 + l)) (hmN (fbA (hdI (cdI K) ko) nh (nI k) (W, s.2.1) nl).2) (bg3 (hdI (cdI K) ko) ko s.2.2.1 s.2.2.2.1 s.2.2.2.2) nl).1 h then 1 else 0 := e
    rw [e2]
    unfold fbBS
    by_cases c : frP (hdI (cdI K) ko) ko nh nl (hmN (fbA (hdI (cdI K) ko) nh (nI k) (W, s.2.1) nl).2) s.2.2.1 s.2.2.2.1 s.2.2.2.2
    · rw [if_neg (by rw [show frV (hdI (cdI K) ko) ko nh nl (hmN (fbA (hdI (cdI K) ko) nh (nI k) (W, s.2.1) nl).2) s.2.2.1 s.2.2.2.1 s.2.2.2.2 = 1 from if_pos c]; decide)]
      rw [if_pos (show ∀ h, h < nh → oR K ko (3 + h) ≤ (acN (dsA K ko) (fun l => oR K ko (19 + l)) (hmN (fbA (hdI (cdI K) ko) nh (nI k) (W, s.2.1) nl).2) (bg3 (hdI (cdI K) ko) ko s.2.2.1 s.2.2.2.1 s.2.2.2.2) nl).1 h from c)]
    · rw [if_pos (show frV (hdI (cdI K) ko) ko nh nl (hmN (fbA (hdI (cdI K) ko) nh (nI k) (W, s.2.1) nl).2) s.2.2.1 s.2.2.2.1 s.2.2.2.2 = 0 from if_neg c)]
      rw [if_neg (show ¬ ∀ h, h < nh → oR K ko (3 + h) ≤ (acN (dsA K ko) (fun l => oR K ko (19 + l)) (hmN (fbA (hdI (cdI K) ko) nh (nI k) (W, s.2.1) nl).2) (bg3 (hdI (cdI K) ko) ko s.2.2.1 s.2.2.2.1 s.2.2.2.2) nl).1 h from c)]
theorem l216 : ∀ c, c ≤ 216 → (nI c).toInt64 = lN c := by decide +kernel
theorem fb_W {X : mI} {ko nh nl W : Nat} {b : Int32} {f md ls cm : Nat → Int32} : (fbB X ko nh nl b (0, f, md, ls, cm) W).1 ≤ W := fbB_le W
theorem RO.sk {I K : mI} {o ko nh nl nw q W : Nat} (H : RO I K o ko nh nl nw) (hW : W ≤ 216) {f md ls cm : Nat → Int32} : ∀ k, (skN (hdI (cdI K) ko) ko nh nl q W (0, 0, f, md, ls, cm) k).1 = lN (smZ (fun k => if onesN (nI k) 10 = q then smZ (fun w => phX I o nh nl k w) W else 0) k) := by
  intro k
  induction k with
  | zero => rfl
  | succ k ih =>
    show (skNS (hdI (cdI K) ko) ko nh nl q W k (skN (hdI (cdI K) ko) ko nh nl q W (0, 0, f, md, ls, cm) k)).1 = lN (smZ (fun k => if onesN (nI k) 10 = q then smZ (fun w => phX I o nh nl k w) W else 0) k + (if onesN (nI k) 10 = q then smZ (fun w => phX I o nh nl k w) W else 0))
    generalize skN (hdI (cdI K) ko) ko nh nl q W (0, 0, f, md, ls, cm) k = s at ih
    unfold skNS
    by_cases c : onesN (nI k) 10 = q
    · rw [if_pos c, if_pos c]
      show s.1 + (nI (fbB (hdI (cdI K) ko) ko nh nl (nI k) (0, s.2.2.1, s.2.2.2.1, s.2.2.2.2.1, s.2.2.2.2.2) W).1).toInt64 = _
      rw [l216 _ (Nat.le_trans fb_W hW), H.fb W, ih]
      exact (Int64.ofNat_add _ _).symm
    · rw [if_neg c, if_neg c]; exact ih
theorem cn_sz {q m : Nat} : ∀ k, smZ (fun k => if onesN (nI k) 10 = q then m else 0) k = cnN q k * m := by
  intro k
  induction k with
  | zero => rw [show cnN q 0 = 0 from rfl, Nat.zero_mul]; rfl
  | succ k ih =>
    show smZ (fun k => if onesN (nI k) 10 = q then m else 0) k + (if onesN (nI k) 10 = q then m else 0) = (if onesN (nI k) 10 = q then cnN q k + 1 else cnN q k) * m
    rw [ih]
    by_cases c : onesN (nI k) 10 = q
    · rw [if_pos c, if_pos c, Nat.succ_mul]
    · rw [if_neg c, if_neg c, Nat.add_zero]
theorem sz_le {g h : Nat → Nat} : ∀ n, (∀ k, k < n → g k ≤ h k) → smZ g n ≤ smZ h n := by
  intro n
  induction n with
  | zero => intro _; exact Nat.le_refl _
  | succ n ih => intro q; exact Nat.add_le_add (ih (fun k hk => q k (by omega))) (q n (by omega))
theorem sz_1 : ∀ n, smZ (fun _ => 1) n = n := by
  intro n
  induction n with
  | zero => rfl
  | succ n ih => show smZ (fun _ => 1) n + 1 = n + 1; rw [ih]
theorem gPh_le {σ : Type} {step : Nat → Nat → σ → σ} {hm : Nat → Nat} {nh : Nat} {lf : σ → Nat} (h : ∀ s, lf s ≤ 1) : ∀ f l k w (st : σ), gPh step hm nh lf f l k w st ≤ 1 := by
  intro f
  induction f with
  | zero => intro l k w st; exact h st
  | succ f ih =>
    intro l k w st
    show (if k % 2 = 0 then _ else _) ≤ 1
    split
    · exact ih _ _ _ _
    · exact ih _ _ _ _
/-- strike -/
theorem e_strike {I K : mI} {o ko nh nl nw q : Nat} {u : Int32} (H : RO I K o ko nh nl nw) (hq : q ≤ nl) (hq3 : q ≤ 3) : ∃ a b, skC I o nh nl q (I 93) (I 94) = (a, b) ∧ a < 2 ^ 63 ∧ 0 < b ∧ b < 2 ^ 63 ∧ ptF (lN a) (lN b) u = skR (hdI (cdI K) ko) ko nh nl q u := by
  have h6 := H.2.nh6
  have h10 := H.2.l10
  have h1 := H.2.nh1
  have hp : 2 ^ nl ≤ 1024 := show 2 ^ nl ≤ 2 ^ 10 from Nat.pow_le_pow_right (by decide) h10
  have hW : nh ^ q ≤ 216 := Nat.le_trans (Nat.pow_le_pow_left h6 q) (show 6 ^ q ≤ 6 ^ 3 from Nat.pow_le_pow_right (by decide) hq3)
  have hW0 : 0 < nh ^ q := Nat.pow_pos h1
  obtain ⟨g1, g2⟩ := gs_G (ds := dsO I o) (kd := I (o + 3)) (hm := hmN (I (o + 2))) (nh := nh) nl 0 q (m_fill (fun _ => 0) (I 93) 6) (m_fill (fun _ => -1) (I 94) 6)
  rw [gG_T _ _ _ _ h1 nl 0 q _ hq] at g1 g2
  have e1 : (skC I o nh nl q (I 93) (I 94)).1 = smZ (fun k => if onesN (nI k) 10 = q then smZ (fun w => phX I o nh nl k w) (nh ^ q) else 0) (2 ^ nl) := g1.trans (sz_cg _ (fun k hk => by rw [pc_ones hk h10]))
  have e2 : (skC I o nh nl q (I 93) (I 94)).2 = cnN q (2 ^ nl) * nh ^ q := by
    rw [← cn_sz]
    refine g2.trans (sz_cg _ (fun k hk => ?_))
    rw [pc_ones hk h10, sz_cg (g := fun _ => 1) (nh ^ q) (fun w _ => gPh_1 _ _ _ nl 0 k w _), sz_1]
  have hc := cnN_P (q := q) rfl hq h10
  have hcl := cnN_le q (2 ^ nl)
  have hb : cnN q (2 ^ nl) * nh ^ q ≤ 1024 * 216 := Nat.mul_le_mul (by omega) hW
  have ha : (skC I o nh nl q (I 93) (I 94)).1 ≤ cnN q (2 ^ nl) * nh ^ q := by
    rw [e1, ← cn_sz]
    refine sz_le _ (fun k hk => ?_)
    by_cases c : onesN (nI k) 10 = q
    · rw [if_pos c, if_pos c]
      refine Nat.le_trans (sz_le (h := fun _ => 1) _ (fun w _ => gPh_le (fun s => ?_) nl 0 k w _)) (by rw [sz_1]; exact Nat.le_refl _)
      unfold gLf; split <;> omega
    · rw [if_neg c, if_neg c]; exact Nat.le_refl _
  refine ⟨(skC I o nh nl q (I 93) (I 94)).1, (skC I o nh nl q (I 93) (I 94)).2, rfl, Nat.lt_of_le_of_lt ha (Nat.lt_of_le_of_lt hb (by decide)), by rw [e2]; exact Nat.mul_pos hc hW0, by rw [e2]; exact Nat.lt_of_le_of_lt hb (by decide), ?_⟩
  unfold skR
  rw [e2, e1, show (skT (hdI (cdI K) ko) ko nh nl q).1 = _ from H.sk hW (2 ^ nl)]
