/-- office -/
theorem e_office {I K : mI} {o ko nh nl nw w : Nat} (H : RO I K o ko nh nl nw) : ansW nh nl (I o 0) (I o 1) (I o 2) (I (o + 1)) (I (o + 2)) (I (o + 3)) (I (o + 4)) (I (o + 6)) (I (o + 7)) (I (o + 8)) w = ansR K ko nh nl w := by
  have h6 := H.2.nh6
  have h10 := H.2.l10
  show ansW nh nl (I o 0) (I o 1) (I o 2) (I (o + 1)) (I (o + 2)) (I (o + 3)) (I (o + 4)) (I (o + 6)) (I (o + 7)) (I (o + 8)) w = ansW nh nl (oR K ko 0) (oR K ko 1) (oR K ko 2) (fun j => oR K ko (3 + j)) (fun l => oR K ko (9 + l)) (fun l => oR K ko (19 + l)) (fun l => oR K ko (29 + l)) (fun l => oR K ko (39 + l)) (fun l => oR K ko (49 + l)) (fun j => oR K ko (59 + j)) w
  unfold ansW
  rw [H.1.h0, H.1.a1.trans H.1.d1.symm, H.1.a2.trans H.1.d2.symm]
  by_cases c1 : 100 ≤ w
  · rw [if_pos c1, if_pos c1]
    by_cases c2 : w < 116
    · rw [if_pos c2, if_pos c2]; exact H.1.ti _ (by omega)
    · rw [if_neg c2, if_neg c2]
  · rw [if_neg c1, if_neg c1]
    by_cases c2 : w < 10
    · rw [if_pos c2, if_pos c2]
    · rw [if_neg c2, if_neg c2]
      by_cases c3 : w < 20
      · rw [if_pos c3, if_pos c3]
        by_cases c4 : w % 10 < nh
        · rw [if_pos c4, if_pos c4]; exact H.1.mo _ (by omega)
        · rw [if_neg c4, if_neg c4]
      · rw [if_neg c3, if_neg c3]
        by_cases c4 : w % 10 < nl
        · rw [if_pos c4, if_pos c4, H.1.ho _ c4, H.1.ki _ c4, H.1.fo _ c4, H.1.mi _ (by omega), H.1.sh _ (by omega)]
        · rw [if_neg c4, if_neg c4]
theorem fin_neg {y : Int32} {h : Int32} (hy : y < 0) : f_in y 0 h = 0 := by unfold f_in; rw [if_pos hy]
theorem fin_nc {j c : Nat} (hj : j < 2 ^ 31) (hc : c < 2 ^ 31) : f_in (nI j) 0 (nI c - 1) = 0 ↔ c ≤ j := f_in_n0 hj hc
/-- which of three -/
theorem z_3 {z : Int32} : (f_in z 0 2 = 0 ∧ ¬ z = 0 ∧ ¬ z = 1 ∧ ¬ z = 2) ∨ (f_in z 0 2 = 1 ∧ (z = 0 ∨ z = 1 ∨ z = 2)) := by
  rcases nI_or z with h | ⟨w, hw, e⟩
  · exact Or.inl ⟨fin_neg h, fun q => by rw [q] at h; exact absurd h (by decide), fun q => by rw [q] at h; exact absurd h (by decide), fun q => by rw [q] at h; exact absurd h (by decide)⟩
  · subst e
    have n : ∀ a : Nat, a < 2 ^ 31 → (nI w = nI a ↔ w = a) := fun a ha => nI_eq hw ha
    by_cases c : w ≤ 2
    · refine Or.inr ⟨f_in_n (lo := 0) (hi := 2) (by omega) c (by decide), ?_⟩
      rcases (show w = 0 ∨ w = 1 ∨ w = 2 by omega) with q | q | q
      · exact Or.inl ((n 0 (by decide)).mpr q)
      · exact Or.inr (Or.inl ((n 1 (by decide)).mpr q))
      · exact Or.inr (Or.inr ((n 2 (by decide)).mpr q))
    · refine Or.inl ⟨?_, fun q => by have := (n 0 (by decide)).mp q; omega, fun q => by have := (n 1 (by decide)).mp q; omega, fun q => by have := (n 2 (by decide)).mp q; omega⟩
      unfold f_in
      rw [if_neg (nI_pos hw), if_pos (show (2 : Int32) < nI w from (nI_ltI (a := 2) (by decide) hw).mpr (by omega))]
theorem z_2 {z : Int32} : (f_in z 0 1 = 0 ∧ ¬ z = 0 ∧ ¬ z = 1) ∨ (f_in z 0 1 = 1 ∧ (z = 0 ∨ z = 1)) := by
  rcases nI_or z with h | ⟨w, hw, e⟩
  · exact Or.inl ⟨fin_neg h, fun q => by rw [q] at h; exact absurd h (by decide), fun q => by rw [q] at h; exact absurd h (by decide)⟩
  · subst e
    have n : ∀ a : Nat, a < 2 ^ 31 → (nI w = nI a ↔ w = a) := fun a ha => nI_eq hw ha
    by_cases c : w ≤ 1
    · refine Or.inr ⟨f_in_n (lo := 0) (hi := 1) (by omega) c (by decide), ?_⟩
      rcases (show w = 0 ∨ w = 1 by omega) with q | q
      · exact Or.inl ((n 0 (by decide)).mpr q)
      · exact Or.inr ((n 1 (by decide)).mpr q)
    · refine Or.inl ⟨?_, fun q => by have := (n 0 (by decide)).mp q; omega, fun q => by have := (n 1 (by decide)).mp q; omega⟩
      unfold f_in
      rw [if_neg (nI_pos hw), if_pos (show (1 : Int32) < nI w from (nI_ltI (a := 1) (by decide) hw).mpr (by omega))]
/-- deed -/
theorem e_deed {I K : mI} {w kw c : Nat} {y z : Int32} (H : RW I K w kw c) : f_Week_answer w c y z I = f_M_deed kw c y z K := by
  have h40 := H.1.c40
  unfold f_Week_answer f_M_deed
  by_cases c1 : y = -1
  · rw [if_pos c1, if_pos c1]
    by_cases c2 : z = 0
    · rw [if_pos c2, if_pos c2]
    · rw [if_neg c2, if_pos (show y < 0 by rw [c1]; decide), if_neg c2]
  · rw [if_neg c1, if_neg c1]
    rcases nI_or y with h | ⟨j, hj, e⟩
    · rw [if_pos h, if_pos (fin_neg h)]
    · subst e
      rw [if_neg (nI_pos hj)]
      by_cases c3 : j < c
      · rw [if_pos ((nI_ltI hj (by omega)).mpr c3), if_neg (fun q => absurd ((fin_nc hj (by omega)).mp q) (by omega)), nI_clamp hj]
        have e1 := H.1.r1 j c3
        have e2 := H.1.r2 j c3
        have e3 := H.1.r3 j c3
        rcases z_3 (z := z) with ⟨q, q0, q1, q2⟩ | ⟨q, q0 | q0 | q0⟩
        · rw [if_neg q0, if_neg q1, if_neg q2, if_pos q]
        · rw [if_pos q0, if_neg (by rw [q]; decide), e1, q0]
          show K 102 (121 * kw + (1 + 3 * j)) = K 102 (121 * kw + 1 + 3 * j + 0); congr 1; omega
        · rw [if_neg (by rw [q0]; decide), if_pos q0, if_neg (by rw [q]; decide), e2, q0]
          show K 102 (121 * kw + (2 + 3 * j)) = K 102 (121 * kw + 1 + 3 * j + 1); congr 1; omega
        · rw [if_neg (by rw [q0]; decide), if_neg (by rw [q0]; decide), if_pos q0, if_neg (by rw [q]; decide), e3, q0]
          show K 102 (121 * kw + (3 + 3 * j)) = K 102 (121 * kw + 1 + 3 * j + 2); congr 1; omega
      · rw [if_neg (fun q => c3 ((nI_ltI hj (by omega)).mp q)), if_pos ((fin_nc hj (by omega)).mpr (by omega))]
def RG (I K : mI) (g kg c : Nat) : Prop := LD I g (fun j => K 103 (17 * kg + j)) c ∧ OKg (fun j => K 103 (17 * kg + j)) c
/-- fact -/
theorem e_fact {I K : mI} {g kg c : Nat} {y z : Int32} (H : RG I K g kg c) : f_Log_answer g c y z I = f_M_fact kg c y z K := by
  have h8 := H.1.c8
  unfold f_Log_answer f_M_fact
  by_cases c1 : y = -1
  · rw [if_pos c1, if_pos c1]
    by_cases c2 : z = 0
    · rw [if_pos c2, if_pos c2]
    · rw [if_neg c2, if_pos (show y < 0 by rw [c1]; decide), if_neg c2]
  · rw [if_neg c1, if_neg c1]
    rcases nI_or y with h | ⟨j, hj, e⟩
    · rw [if_pos h, if_pos (fin_neg h)]
    · subst e
      rw [if_neg (nI_pos hj)]
      by_cases c3 : j < c
      · rw [if_pos ((nI_ltI hj (by omega)).mpr c3), if_neg (fun q => absurd ((fin_nc hj (by omega)).mp q) (by omega)), nI_clamp hj]
        have e1 := H.1.r1 j c3
        have e2 := H.1.r2 j c3
        rcases z_2 (z := z) with ⟨q, q0, q1⟩ | ⟨q, q0 | q0⟩
        · rw [if_neg q0, if_neg q1, if_pos q]
        · rw [if_pos q0, if_neg (by rw [q]; decide), e1, q0]
          show K 103 (17 * kg + (1 + 2 * j)) = K 103 (17 * kg + 1 + 2 * j + 0); congr 1; omega
        · rw [if_neg (by rw [q0]; decide), if_pos q0, if_neg (by rw [q]; decide), e2, q0]
          show K 103 (17 * kg + (2 + 2 * j)) = K 103 (17 * kg + 1 + 2 * j + 1); congr 1; omega
      · rw [if_neg (fun q => c3 ((nI_ltI hj (by omega)).mp q)), if_pos ((fin_nc hj (by omega)).mpr (by omega))]
