/-- what the orders of both sides speak of -/
def OH (I : mI) (o : Nat) (X : mI) (ko nl : Nat) : Prop := nl ≤ 10 ∧ WFk X ko ∧ ∀ l, l < nl → I (o + 3) l = nI (kdN X ko l) ∧ ∀ x, kOK x → dsO I o l x = dsR X ko l x ∧ bnI (dsR X ko l x) 81
theorem rm_sub {t A i : Nat} (hi : i < 31) (ht : t < 2 ^ 31) (h : t &&& A = t) : rmN t i &&& A = rmN t i := by
  rw [rm_xor hi ht, Nat.and_comm t, Nat.and_assoc, h]
theorem kOK_sl {a : Nat} (ha : a < 5) : kOK (slA a) := by
  unfold slA
  by_cases c : a = 0
  · rw [if_pos c]; exact Or.inl rfl
  · rw [if_neg c]; exact Or.inr ⟨a - 1, by omega, rfl⟩
theorem toI_nI {a : Nat} (h : a < 2 ^ 31) : (nI a).toInt = (a : Int) := by
  show (Int32.ofNat a).toInt = _
  rw [Int32.toInt_ofNat_of_lt (by omega)]
theorem le_iff {x y : Int32} : x ≤ y ↔ x.toInt ≤ y.toInt := Int32.le_iff_toInt_le
theorem bo_k {I X : mI} {o ko nl A : Nat} {u : Int32} {B0 : Nat → Int32} (H : OH I o X ko nl) (hA : A < 2 ^ nl) : ∀ t, t &&& A = t → ∀ a, a < 5 → bnI (foN X ko nl (nI A) u B0 1024 (5 * t + a)) (81 * t) ∧ (0 < t → bsP u t nl (fun i => obR X ko (foN X ko nl (nI A) u B0 1024) t i (slA a)) (foN X ko nl (nI A) u B0 1024 (5 * t + a))) ∧ (t = 0 → foN X ko nl (nI A) u B0 1024 (5 * t + a) = 0) := by
  obtain ⟨h10, hW, hd⟩ := H
  have hp : 2 ^ nl ≤ 2 ^ 10 := Nat.pow_le_pow_right (by decide) h10
  have hf := foN_k (K := X) (ko := ko) (nl := nl) (B := B0) (am := nI A) (u := u) hW h10 1024 (Nat.le_refl _)
  generalize foN X ko nl (nI A) u B0 1024 = B at hf
  intro t
  induction t using Nat.strongRecOn with
  | _ t ih =>
  intro hs a ha
  have htA : t ≤ A := by have := Nat.and_le_right (n := t) (m := A); rw [hs] at this; exact this
  have e := hf t (by omega) ((sub_nI (by omega)).mpr hs) a ha
  unfold foV at e
  by_cases t0 : t = 0
  · subst t0
    have q := foA_k (K := X) (ko := ko) (B := B) (t := 0) (u := u) (x := slA a) (s0 := fo0 0 u) nl (fun i hi hb => absurd ((has_nI (by omega)).mpr (Nat.zero_testBit i)) hb)
    have e0 : B (5 * 0 + a) = 0 := by
      rw [e]
      rcases q with ⟨_, b⟩ | ⟨⟨i, a1, a2, _⟩, _⟩
      · rw [b]; rfl
      · exact absurd ((has_nI (by omega)).mpr (Nat.zero_testBit i)) a2
    refine ⟨?_, fun w => absurd w (by omega), fun _ => e0⟩
    rw [e0]; unfold bnI; decide
  · have hob : ∀ i, i < nl → ¬ f_has (nI t) (nI i) = 0 → bnI (obR X ko B t i (slA a)) (81 * t) := fun i hi hb => by
      have r1 := rm_sm (t := t) (l := i) (by omega) (by omega) hb
      have hk := (hW i (by omega)).2
      have b1 := (ih (rmN t i) r1 (rm_sub (by omega) (by omega) hs) (1 + kdN X ko i) (by omega)).1
      have b2 := ((hd i hi).2 (slA a) (kOK_sl ha)).2
      unfold obR
      rw [show 5 * rmN t i + 1 + kdN X ko i = 5 * rmN t i + (1 + kdN X ko i) by omega]
      exact bn_mono (bn_add b2 b1 (by omega)).2 (by omega)
    have q := foA_k (K := X) (ko := ko) (B := B) (t := t) (u := u) (x := slA a) (s0 := fo0 t u) nl (fun i hi hb => by
      have b := hob i hi hb
      unfold bnI at b
      unfold fo0
      rw [if_neg t0]
      refine ⟨fun w => ?_, fun w => ?_⟩
      · rw [if_pos w, le_iff, show (-1000000 : Int32).toInt = -1000000 by decide]; omega
      · rw [if_neg w, le_iff, show (1000000 : Int32).toInt = 1000000 by decide]; omega)
    rw [← e] at q
    rcases q with ⟨b, _⟩ | q
    · obtain ⟨i, hi, hb⟩ := has_ex (t := t) (n := nl) (by omega) (by omega) h10
      exact absurd (b i hi) hb
    · refine ⟨?_, fun _ => q, fun w => absurd w t0⟩
      obtain ⟨⟨i, a1, a2, a3⟩, _⟩ := q
      rw [← a3]; exact hob i a1 a2
def sgZ (u : Int32) : Int := if u = 0 then 1 else -1
def saN (a : Nat) : Nat := if a = 4 then 0 else a + 1
theorem sa_sl {a : Nat} (ha : a < 5) : (if a = 4 then (-1 : Int32) else nI a) = slA (saN a) ∧ saN a < 5 := by
  unfold slA saN
  by_cases c : a = 4
  · rw [if_pos c, if_pos c, if_pos rfl]; exact ⟨rfl, by decide⟩
  · rw [if_neg c, if_neg c, if_neg (by omega)]; exact ⟨by congr 1, by omega⟩
theorem sg_mul {u d : Int32} {B : Nat} (h : bnI d B) (hB : B < 2 ^ 31) : (sgU u * d).toInt = sgZ u * d.toInt ∧ bnI (sgU u * d) B := by
  unfold sgU sgZ
  by_cases c : u = 0
  · rw [if_pos c, if_pos c]
    have e : nI 1 * d = d := Int32.one_mul d
    rw [e]; exact ⟨by omega, h⟩
  · rw [if_neg c, if_neg c]
    have e : (-1 : Int32) * d = -d := by rw [show (-1 : Int32) = -(1 : Int32) from rfl, Int32.neg_mul, Int32.one_mul]
    unfold bnI at h ⊢
    have e2 : (-d).toInt = -d.toInt := by
      rw [Int32.toInt_neg]; exact Int.bmod_eq_of_le (by omega) (by omega)
    rw [e, e2]; exact ⟨by omega, by omega⟩
/-- the class's gains are the reference's table -/
theorem ord_eq {I X : mI} {o ko nl A h : Nat} {wo u : Int32} {q : gr4} {ga B0 : Nat → Int32} (H : OH I o X ko nl) (hA : A < 2 ^ nl) (G : GR I o h wo (sgU u) q nl) (hg0 : ∀ j, j < 5 → ga j = 0) : ∀ t' t, relT q t' t → t &&& A = t → ∀ a, a < 5 → (mgT q ga (5 * t' + a)).toInt = sgZ u * (foN X ko nl (nI A) u B0 1024 (5 * t + saN a)).toInt := by
  have hbo := bo_k (u := u) (B0 := B0) H hA
  obtain ⟨h10, hW, hd⟩ := H
  have hsz := G.sz
  have hp : 2 ^ nl ≤ 2 ^ 10 := Nat.pow_le_pow_right (by decide) h10
  have hp2 : 2 ^ q.1 ≤ 2 ^ 10 := Nat.pow_le_pow_right (by decide) (by omega)
  have hp3 : 0 < 2 ^ q.1 := Nat.pow_pos (by decide)
  have hkk : ∀ i, i < q.1 → hmN q.2.2.1 i = kdN X ko (hmN q.2.1 i) := fun i hi => by
    obtain ⟨a1, a2, a3, a4, a5, a6⟩ := G.el i hi
    show (q.2.2.1 i).toNatClampNeg = kdN X ko (hmN q.2.1 i)
    rw [a5, (hd _ a1).1]; exact nI_clamp (by have := (hW (hmN q.2.1 i) (by omega)).2; omega)
  obtain ⟨m1, m2⟩ := mgN_k (k0 := q.2.2.1) (dg := q.2.2.2) (s := ga) (sz := q.1) (by omega) (fun i hi => by
    rw [hkk i hi]; have := (hW (hmN q.2.1 i) (by have := (G.el i hi).1; omega)).2; omega) (2 ^ q.1 - 1) (by omega)
  show ∀ t' t, relT q t' t → t &&& A = t → ∀ a, a < 5 → (mgN q.2.2.1 q.2.2.2 q.1 ga (2 ^ q.1 - 1) (5 * t' + a)).toInt = _
  generalize mgN q.2.2.1 q.2.2.2 q.1 ga (2 ^ q.1 - 1) = M at m1 m2
  generalize foN X ko nl (nI A) u B0 1024 = B at hbo
  intro t'
  induction t' using Nat.strongRecOn with
  | _ t' ih =>
  intro t hrel hs a ha
  obtain ⟨r1, r2, r3⟩ := hrel
  obtain ⟨sl1, sl2⟩ := sa_sl ha
  by_cases t0 : t' = 0
  · subst t0
    have tz : t = 0 := by
      apply Nat.eq_of_testBit_eq
      intro l
      rw [Nat.zero_testBit]
      by_cases hl : l < 10
      · cases c : t.testBit l
        · rfl
        · obtain ⟨i, _, b, _⟩ := (r3 l hl).mp c
          rw [Nat.zero_testBit] at b; exact absurd b (by decide)
      · exact Nat.testBit_lt_two_pow (Nat.lt_of_lt_of_le r1 (show 2 ^ 10 ≤ 2 ^ l from Nat.pow_le_pow_right (by decide) (by omega)))
    subst tz
    rw [(hbo 0 hs (saN a) sl2).2.2 rfl, show 5 * 0 + a = a by omega, m2 a ha, hg0 a ha]
    show (0 : Int32).toInt = sgZ u * (0 : Int32).toInt
    rw [show (0 : Int32).toInt = 0 by decide]; omega
  · have htA : t ≤ A := by have := Nat.and_le_right (n := t) (m := A); rw [hs] at this; exact this
    obtain ⟨⟨i0, c1, c2, c3⟩, c4⟩ := m1 t' (by omega) (by omega) a ha
    have tpos : 0 < t := by
      have := (r3 (hmN q.2.1 i0) (by have := (G.el i0 c1).1; omega)).mpr ⟨i0, c1, (hasT (by omega)).mp c2, rfl⟩
      rcases Nat.eq_zero_or_pos t with w | w
      · subst w; rw [Nat.zero_testBit] at this; exact absurd this (by decide)
      · exact w
    obtain ⟨⟨l0, d1, d2, d3⟩, d4⟩ := (hbo t hs (saN a) sl2).2.1 tpos
    have key : ∀ i, i < q.1 → ¬ f_has (nI t') (nI i) = 0 → (q.2.2.2 (5 * i + a) + M (5 * rmN t' i + hmN q.2.2.1 i)).toInt = sgZ u * (obR X ko B t (hmN q.2.1 i) (slA (saN a))).toInt := fun i hi hb => by
      obtain ⟨a1, a2, a3, a4, a5, a6⟩ := G.el i hi
      have hl10 : hmN q.2.1 i < 10 := by omega
      have hk4 := (hW _ hl10).2
      have hbt : ¬ f_has (nI t) (nI (hmN q.2.1 i)) = 0 := (hasT (by omega)).mpr ((r3 _ hl10).mpr ⟨i, hi, (hasT (by omega)).mp hb, rfl⟩)
      have rs := rm_sm (t := t') (l := i) (by omega) (by omega) hb
      have rt := rm_sm (t := t) (l := hmN q.2.1 i) (by omega) (by omega) hbt
      have hrs := rm_sub (t := t) (A := A) (i := hmN q.2.1 i) (by omega) (by omega) hs
      have e1 := ih (rmN t' i) rs (rmN t (hmN q.2.1 i)) (relT_rm G h10 ⟨r1, r2, r3⟩ hi hb) hrs (kdN X ko (hmN q.2.1 i)) (by omega)
      rw [show saN (kdN X ko (hmN q.2.1 i)) = 1 + kdN X ko (hmN q.2.1 i) by unfold saN; rw [if_neg (by omega)]; omega] at e1
      have bb := (hbo (rmN t (hmN q.2.1 i)) hrs (1 + kdN X ko (hmN q.2.1 i)) (by omega)).1
      obtain ⟨f1, f2⟩ := (hd _ a1).2 (slA (saN a)) (kOK_sl sl2)
      rw [a6 a ha, sl1, f1, hkk i hi]
      obtain ⟨s1_, s2_⟩ := sg_mul (u := u) f2 (by decide)
      have bM : bnI (M (5 * rmN t' i + kdN X ko (hmN q.2.1 i))) (81 * rmN t (hmN q.2.1 i)) := by
        unfold bnI at bb ⊢
        rw [e1]; unfold sgZ
        by_cases c : u = 0
        · rw [if_pos c]; omega
        · rw [if_neg c]; omega
      rw [(bn_add s2_ bM (by omega)).1, s1_, e1]
      unfold obR
      rw [show 5 * rmN t (hmN q.2.1 i) + 1 + kdN X ko (hmN q.2.1 i) = 5 * rmN t (hmN q.2.1 i) + (1 + kdN X ko (hmN q.2.1 i)) by omega, (bn_add f2 bb (by omega)).1, Int.mul_add]
    have hl0 : l0 < 10 := by omega
    obtain ⟨i1, g1, g2, g3⟩ := (r3 l0 hl0).mp ((hasT (by omega)).mp d2)
    have k0 := key i0 c1 c2
    have k1 := key i1 g1 ((hasT (by omega)).mpr g2)
    have m0 := c4 i1 g1 ((hasT (by omega)).mpr g2)
    have x0 := (G.el i0 c1).1
    have m3 := d4 (hmN q.2.1 i0) x0 ((hasT (by omega)).mpr ((r3 _ (by omega)).mpr ⟨i0, c1, (hasT (by omega)).mp c2, rfl⟩))
    rw [show (fun i => q.2.2.2 (5 * i + a) + M (5 * rmN t' i + hmN q.2.2.1 i)) i0 = q.2.2.2 (5 * i0 + a) + M (5 * rmN t' i0 + hmN q.2.2.1 i0) from rfl] at c3
    rw [c3] at k0
    rw [g3] at k1
    have d3' : obR X ko B t l0 (slA (saN a)) = B (5 * t + saN a) := d3
    rw [d3'] at k1
    have m0' : (q.2.2.2 (5 * i1 + a) + M (5 * rmN t' i1 + hmN q.2.2.1 i1)).toInt ≤ (M (5 * t' + a)).toInt := le_iff.mp m0
    rw [k1] at m0'
    rw [k0] at m0' ⊢
    unfold sgZ at *
    by_cases c : u = 0
    · have w := le_iff.mp (m3.1 c)
      rw [if_pos c] at *
      have w : (obR X ko B t (hmN q.2.1 i0) (slA (saN a))).toInt ≤ (B (5 * t + saN a)).toInt := w
      omega
    · have w := le_iff.mp (m3.2 c)
      rw [if_neg c] at *
      have w : (B (5 * t + saN a)).toInt ≤ (obR X ko B t (hmN q.2.1 i0) (slA (saN a))).toInt := w
      omega
