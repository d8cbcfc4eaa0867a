theorem and3 {x s : Int32} : ((x &&& nI 3) + s) &&& nI 3 = (x + s) &&& nI 3 := by
  apply Int32.toBitVec_inj.mp
  show ((x.toBitVec &&& 3#32) + s.toBitVec) &&& 3#32 = (x.toBitVec + s.toBitVec) &&& 3#32
  apply BitVec.eq_of_toNat_eq
  have h3 : ∀ a : Nat, a &&& 3 = a % 4 := fun a => Nat.and_two_pow_sub_one_eq_mod a 2
  rw [BitVec.toNat_and, BitVec.toNat_and, BitVec.toNat_add, BitVec.toNat_add, BitVec.toNat_and]
  rw [show (3#32 : BitVec 32).toNat = 3 from rfl, h3, h3, h3]
  omega
theorem n2k {k : Nat} : nI 2 * nI k = nI (2 * k) := (Int32.ofNat_mul 2 k).symm
theorem RO.brE {I K : mI} {o ko nh nl nw : Nat} {r : Int32} (H : RO I K o ko nh nl nw) : ∀ k, k ≤ nl → brN I o r (nI 0) k = roN (hdI (cdI K) ko) ko r (nI 0) (nI 0) k := by
  have h10 := H.2.l10
  intro k
  induction k with
  | zero => intro _; rfl
  | succ k ih =>
    intro hk
    show brNS I o r k (_root_.Jvm.Pilot.CSortedOfficeLaw_law_r7817_abba98.brN I o r (nI 0) k) = roNS (hdI (cdI K) ko) ko r (nI 0) k (roN (hdI (cdI K) ko) ko r (nI 0) (nI 0) k)
    rw [ih (by omega)]
    unfold brNS roNS rkO
    have e6 : I (o + 6) k = oR (hdI (cdI K) ko) ko (39 + k) := H.1.mi k (by omega)
    have e7 : I (o + 7) k = oR (hdI (cdI K) ko) ko (49 + k) := H.1.sh k (by omega)
    rw [if_pos (show f_has (nI 0) (nI k) = 0 from (has_nI (by omega)).mpr (Nat.zero_testBit k)), e6, e7, n2k]
    by_cases c : oR (hdI (cdI K) ko) ko (39 + k) = -1
    · rw [if_pos c, if_pos c]
    · rw [if_neg c, if_neg c, and3]
theorem RO.rsE {I K : mI} {o ko nh nl nw : Nat} {r : Int32} (H : RO I K o ko nh nl nw) : ∀ k, rsC I o nl r k = rsN (hdI (cdI K) ko) ko nl (nI 0) r k := by
  intro k
  induction k with
  | zero => rfl
  | succ k ih =>
    show brR I o nl (_root_.Jvm.Pilot.CSortedOfficeLaw_law_r7817_abba98.rsC I o nl r k) = roR (hdI (cdI K) ko) ko nl (rsN (hdI (cdI K) ko) ko nl (nI 0) r k) (nI 0)
    rw [ih]; exact H.brE nl (Nat.le_refl _)
theorem RO.af {I K : mI} {o ko nh nl nw : Nat} (H : RO I K o ko nh nl nw) : ∀ k, k ≤ nl → afN I o (nI 0) k = rsA (hdI (cdI K) ko) ko (nI 0) k := by
  intro k
  induction k with
  | zero => intro _; rfl
  | succ k ih =>
    intro hk
    show afN I o (nI 0) k ||| (I (o + 3) k <<< (nI (2 * k) &&& 31)) = rsA (hdI (cdI K) ko) ko (nI 0) k ||| (oR (hdI (cdI K) ko) ko (19 + k) <<< (nI (2 * k) &&& 31))
    rw [ih (by omega), H.kd (by omega)]; rfl
theorem RO.rs {I K : mI} {o ko nh nl nw N : Nat} (H : RO I K o ko nh nl nw) : rsC I o nl (af0 I o nl) N = rsN (hdI (cdI K) ko) ko nl (nI 0) (rs0 (hdI (cdI K) ko) ko nl) N := by
  rw [show af0 I o nl = rs0 (hdI (cdI K) ko) ko nl from H.af nl (Nat.le_refl _), H.rsE]
/-- rack -/
theorem e_rack {I K : mI} {o ko nh nl nw l N : Nat} (H : RO I K o ko nh nl nw) : rkO (rsC I o nl (af0 I o nl) N) (nI l) = rkO (rsN (hdI (cdI K) ko) ko nl (nI 0) (rs0 (hdI (cdI K) ko) ko nl) N) (nI l) := by rw [H.rs]
/-- settled 0 -/
theorem e_settledS {I K : mI} {o ko nh nl nw : Nat} {v : Int32} (H : RO I K o ko nh nl nw) : seC I o nl v ↔ seV (hdI (cdI K) ko) ko nl v := by
  have e : ∀ k, rsC I o nl (af0 I o nl) k = rsN (hdI (cdI K) ko) ko nl (nI 0) (rsN (hdI (cdI K) ko) ko nl (nI 0) (rs0 (hdI (cdI K) ko) ko nl) 0) k := fun k => H.rs
  have b : ∀ r, brR I o nl r = roR (hdI (cdI K) ko) ko nl r (nI 0) := fun r => H.brE nl (Nat.le_refl _)
  unfold seC seV
  constructor
  · rintro (⟨k, h1, h2, h3, h4⟩ | ⟨h1, h2⟩)
    · exact Or.inl ⟨k, h1, by rw [← b, ← e]; exact h2, fun j hj => by rw [← b, ← e]; exact h3 j hj, h4⟩
    · exact Or.inr ⟨fun k hk => by rw [← b, ← e]; exact h1 k hk, h2⟩
  · rintro (⟨k, h1, h2, h3, h4⟩ | ⟨h1, h2⟩)
    · exact Or.inl ⟨k, h1, by rw [b, e]; exact h2, fun j hj => by rw [b, e]; exact h3 j hj, h4⟩
    · exact Or.inr ⟨fun k hk => by rw [b, e]; exact h1 k hk, h2⟩
theorem on_le {t nl : Nat} (ht : t < 2 ^ nl) (hnl : nl ≤ 10) : onesN (nI t) 10 ≤ nl := by
  have e := on_big ht (10 - nl) (by omega)
  rw [show nl + (10 - nl) = 10 by omega] at e
  rw [e]; exact onesN_le _ _
theorem orb_ {t l nl : Nat} (ht : t < 2 ^ nl) (hl : l < nl) (hnl : nl ≤ 10) : nI t ||| (nI 1 <<< (nI l &&& 31)) = nI (t ||| 2 ^ l) ∧ t ||| 2 ^ l < 2 ^ nl := by
  refine ⟨?_, Nat.or_lt_two_pow ht (Nat.pow_lt_pow_right (by decide) hl)⟩
  rw [← or_nI]
  congr 1
  apply b_ext
  intro i hi
  rw [show (nI 1 : Int32) = 1 from rfl, bt_sh (by omega) hi, bt_nI hi, Nat.testBit_two_pow]
  by_cases c : i = l
  · rw [decide_eq_true c, decide_eq_true c.symm]
  · rw [decide_eq_false c, decide_eq_false (fun q => c q.symm)]
/-- rows of minding -/
theorem row_eq {mn : Nat → Int32} {X : mI} {ko nl : Nat} (hnl : nl ≤ 10) (hm : ∀ l, l < nl → mn l = oR X ko (39 + l) ∧ (oR X ko (39 + l) = -1 ∨ ∃ m, m < nl ∧ oR X ko (39 + l) = nI m)) : ∀ m f f' t a, onesN (nI t) 10 + m = nl → t < 2 ^ nl → m ≤ f → m ≤ f' → (a = -1 ∨ ∃ l, l < nl ∧ a = nI l) → rfN mn f (nI t) a (onesN (nI t) 10) = onesN (flN X ko f' (nI t) a) 10 := by
  intro m
  induction m with
  | zero =>
    intro f f' t a h1 h2 _ _ h5
    have full : ∀ l, l < nl → ¬ f_has (nI t) (nI l) = 0 := fun l hl hz => by
      have e1 := ones_or (s := nI t) (m := l) (by omega) hz
      obtain ⟨e2, e3⟩ := orb_ h2 hl hnl
      rw [e2] at e1
      have := on_le e3 hnl
      omega
    have l1 : rfN mn f (nI t) a (onesN (nI t) 10) = onesN (nI t) 10 := by
      cases f with
      | zero => rfl
      | succ f =>
        show (if a = -1 then _ else if f_has (nI t) a = 0 then _ else _) = _
        rcases h5 with h5 | ⟨l, hl, h5⟩
        · rw [if_pos h5]
        · rw [h5, if_neg (nI_m1 (by omega)), if_neg (full l hl)]
    have l2 : flN X ko f' (nI t) a = nI t := by
      cases f' with
      | zero => rfl
      | succ f' =>
        show (if a = -1 then _ else if f_has (nI t) a = 0 then _ else _) = _
        rcases h5 with h5 | ⟨l, hl, h5⟩
        · rw [if_pos h5]
        · rw [h5, if_neg (nI_m1 (by omega)), if_neg (full l hl)]
    rw [l1, l2]
  | succ m ih =>
    intro f f' t a h1 h2 h3 h4 h5
    obtain ⟨f, rfl⟩ : ∃ g, f = g + 1 := ⟨f - 1, by omega⟩
    obtain ⟨f', rfl⟩ : ∃ g, f' = g + 1 := ⟨f' - 1, by omega⟩
    show (if a = -1 then onesN (nI t) 10 else if f_has (nI t) a = 0 then rfN mn f (nI t ||| (nI 1 <<< (a &&& 31))) (mn a.toNatClampNeg) (onesN (nI t) 10 + 1) else onesN (nI t) 10) = onesN (if a = -1 then nI t else if f_has (nI t) a = 0 then flN X ko f' (nI t ||| (nI 1 <<< (a &&& 31))) (oR X ko (39 + a.toNatClampNeg)) else nI t) 10
    rcases h5 with h5 | ⟨l, hl, h5⟩
    · rw [if_pos h5, if_pos h5]
    · rw [h5, if_neg (nI_m1 (by omega)), if_neg (nI_m1 (by omega))]
      by_cases c : f_has (nI t) (nI l) = 0
      · rw [if_pos c, if_pos c, nI_clamp (by omega), (hm l hl).1]
        obtain ⟨e2, e3⟩ := orb_ h2 hl hnl
        have e1 := ones_or (s := nI t) (m := l) (by omega) c
        rw [e2] at e1 ⊢
        rw [← e1]
        exact ih f f' _ _ (by omega) e3 (by omega) (by omega) (hm l hl).2
      · rw [if_neg c, if_neg c]
theorem RO.WFm {I K : mI} {o ko nh nl nw : Nat} (H : RO I K o ko nh nl nw) : WFm K ko nl ∧ WFmC I o nl := by
  have h10 := H.2.l10
  have w : ∀ l, l < nl → oR K ko (39 + l) = -1 ∨ ∃ m, m < nl ∧ oR K ko (39 + l) = nI m := fun l hl => by
    rcases H.2.mi l (by omega) with e | ⟨a, s, _, ha, _, _, e, _⟩
    · exact Or.inl e.1
    · exact Or.inr ⟨a, ha, e⟩
  exact ⟨w, fun l hl => by rw [H.1.mi l (by omega)]; exact w l hl⟩
/-- ruled 1 -/
theorem e_rows {I K : mI} {o ko nh nl nw : Nat} (H : RO I K o ko nh nl nw) : ∀ k, k ≤ nl → lrC I o nl (nI 0) k = fwN (hdI (cdI K) ko) ko (nI 0) k := by
  have h10 := H.2.l10
  intro k
  induction k with
  | zero => intro _; rfl
  | succ k ih =>
    intro hk
    show lrCS I o nl k (lrC I o nl (nI 0) k) = fwNS (hdI (cdI K) ko) ko k (fwN (hdI (cdI K) ko) ko (nI 0) k)
    rw [ih (by omega)]
    unfold lrCS fwNS
    have e := row_eq (mn := I (o + 6)) (X := hdI (cdI K) ko) (ko := ko) h10 (fun l hl => ⟨H.1.mi l (by omega), H.WFm.1 l hl⟩) nl nl 11 0 (nI k) (by rw [show onesN (nI 0) 10 = 0 by decide]; omega) (Nat.pow_pos (by decide)) (Nat.le_refl _) (by omega) (Or.inr ⟨k, by omega, rfl⟩)
    rw [show onesN (nI 0) 10 = 0 by decide] at e
    rw [e, gr_if]
