theorem RO.szo {I K : mI} {o ko nh nl nw h : Nat} {u : Int32} {g k0 dg : Nat → Int32} (H : RO I K o ko nh nl nw) : (grT I o h nl (-1) (sgU u) g k0 dg).1 = onesN (nI (ltN ((hdI (cdI K) ko) 106) (nI h) nl)) 10 := by
  have h10 := H.2.l10
  have hb := H.lt_bt (h := h)
  have hAn : ltN ((hdI (cdI K) ko) 106) (nI h) nl < 2 ^ nl := Nat.lt_pow_two_of_testBit _ (fun i hi => by
    cases c : (ltN ((hdI (cdI K) ko) 106) (nI h) nl).testBit i
    · rfl
    · exact absurd ((hb i).mp c).1 (by omega))
  have e := sz_on (I := I) (o := o) (h := h) (wo := -1) (sg := sgU u) (s0 := (0, g, k0, dg)) rfl h10 hb nl (Nat.le_refl _)
  have e2 := on_big hAn (10 - nl) (by omega)
  rw [show nl + (10 - nl) = 10 by omega] at e2
  exact e.trans e2.symm
/-- order: a letter -/
theorem e_orderN {I K : mI} {o ko nh nl nw h k : Nat} {u : Int32} (H : RO I K o ko nh nl nw) (h68 : ∀ j, j < 5 → I 68 j = 0) (hk : k < onesN (nI (ltN ((hdI (cdI K) ko) 106) (nI h) nl)) 10) : laR (moR I o nl h (-1) (sgU u) (w5 I)) (grT I o h nl (-1) (sgU u) (I 65) (I 66) (I 67)).1 k = (oaN (hdI (cdI K) ko) ko nl (foN (hdI (cdI K) ko) ko nl (nI (ltN ((hdI (cdI K) ko) 106) (nI h) nl)) u ((hdI (cdI K) ko) 110) 1024) ((ltN ((hdI (cdI K) ko) 106) (nI h) nl), -1, -1) (k + 1)).2.2 ∧ ∀ j, j ≤ k → oaK (hdI (cdI K) ko) ko nl (foN (hdI (cdI K) ko) ko nl (nI (ltN ((hdI (cdI K) ko) 106) (nI h) nl)) u ((hdI (cdI K) ko) 110) 1024) (oaN (hdI (cdI K) ko) ko nl (foN (hdI (cdI K) ko) ko nl (nI (ltN ((hdI (cdI K) ko) 106) (nI h) nl)) u ((hdI (cdI K) ko) 110) 1024) ((ltN ((hdI (cdI K) ko) 106) (nI h) nl), -1, -1) j) := by
  have hs := H.szo (h := h) (u := u) (g := I 65) (k0 := I 66) (dg := I 67)
  have key := ord_let (u := u) (wo := -1) (h := h) (w := w5 I) (B0 := (hdI (cdI K) ko) 110) H.OH H.lt_bt h68
  refine ⟨?_, fun j hj => ?_⟩
  · obtain ⟨t', a, t, x, e1, _, _, _, _, _, _, _, e9⟩ := key k (by show k ≤ (grT I o h nl (-1) (sgU u) (I 65) (I 66) (I 67)).1; omega)
    unfold laR
    rw [if_pos (by rw [hs]; exact hk)]
    have e1' : laN (moR I o nl h (-1) (sgU u) (w5 I)) (grT I o h nl (-1) (sgU u) (I 65) (I 66) (I 67)).1 (2 ^ (grT I o h nl (-1) (sgU u) (I 65) (I 66) (I 67)).1 - 1, 4) k = (t', a) := e1
    rw [e1']
    exact (e9 (by show k < (grT I o h nl (-1) (sgU u) (I 65) (I 66) (I 67)).1; omega)).2
  · obtain ⟨t', a, t, x, _, _, _, _, _, _, _, _, e9⟩ := key j (by show j ≤ (grT I o h nl (-1) (sgU u) (I 65) (I 66) (I 67)).1; omega)
    exact (e9 (by show j < (grT I o h nl (-1) (sgU u) (I 65) (I 66) (I 67)).1; omega)).1
theorem e_orderB {I K : mI} {o ko nh nl nw h k : Nat} {u : Int32} {w : r5} (H : RO I K o ko nh nl nw) (hk : onesN (nI (ltN ((hdI (cdI K) ko) 106) (nI h) nl)) 10 ≤ k) : laR w (grT I o h nl (-1) (sgU u) (I 65) (I 66) (I 67)).1 k = -1000 := by
  unfold laR
  rw [if_neg (by rw [H.szo]; omega)]
