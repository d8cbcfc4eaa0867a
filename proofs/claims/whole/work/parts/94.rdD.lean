theorem c_lawAtHand {S : Nat × (Nat → Int32)} {d n : Nat} {I : mI} {J : mJ} {R : mR} (hn : 122 ≤ n) (hR : m_fin R) {K N P F : Nat → Int32} {k0 k1 : Nat} (hk0 : K 0 = nI k0) (hk1 : K 1 = nI k1) (hk04 : k0 < 4) (hk14 : k1 < 4)  : RUN S d YReader_lawAtHand [.ref 40] (m_row (m_row (m_row (m_row I 40 F) 57 K) 58 N) 59 P) J R n (some (.int (nI (4 * k0 + k1)))) (m_row (m_row (m_row (m_row I 40 F) 57 K) 58 N) 59 P) J R n := by
  show AW S _ YReader_lawAtHand n n _ 0 [(0, .ref 40)] [] (m_row (m_row (m_row (m_row I 40 F) 57 K) 58 N) 59 P) J R n
  refine a_iconstN (a := 4) dReader_lawAtHand_0 (by decide) ?_
  refine a_aload_n 0 dReader_lawAtHand_1 rfl rfl ?_
  refine a_geta (r := 57) dReader_lawAtHand_2 fl7_32 rfl ly_40 (by omega) (rf_40_11 hR) ?_
  refine a_iconstN (a := 0) dReader_lawAtHand_5 (by decide) ?_
  refine a_ialdN (a := 0) dReader_lawAtHand_6 ly_57 (by omega) (by omega) (by decide) ?_
  rw [show (m_row (m_row (m_row (m_row I 40 F) 57 K) 58 N) 59 P) 57 0 = K 0 from rfl]
  rw [show (K 0) = (nI k0) from hk0]
  refine a_imulN (a := 4) (b := k0) dReader_lawAtHand_7 ?_
  refine a_aload_n 0 dReader_lawAtHand_8 rfl rfl ?_
  refine a_geta (r := 57) dReader_lawAtHand_9 fl7_32 rfl ly_40 (by omega) (rf_40_11 hR) ?_
  refine a_iconstN (a := 1) dReader_lawAtHand_12 (by decide) ?_
  refine a_ialdN (a := 1) dReader_lawAtHand_13 ly_57 (by omega) (by omega) (by decide) ?_
  rw [show (m_row (m_row (m_row (m_row I 40 F) 57 K) 58 N) 59 P) 57 1 = K 1 from rfl]
  rw [show (K 1) = (nI k1) from hk1]
  refine a_iaddN (a := (4 * k0)) (b := k1) dReader_lawAtHand_14 ?_
  exact a_iret dReader_lawAtHand_15 rfl ⟨rfl, rfl, rfl, rfl⟩
/-- is a line one too many -/
def tmV (I : mI) (law : Nat) (l : Nat) : Int32 := if l = 2 then (if I 41 1 < nI 10 then 0 else 1) else if l = 3 then (if I 41 2 < nI 8 then 0 else if I 49 law = -1 then 1 else 0) else if l = 9 then (if I 54 0 < nI 8 then 0 else 1) else if l = 0 ∨ l = 1 ∨ l = 4 then 0 else (if I 50 0 < nI 40 then 0 else 1)
theorem c_tooMany0 {S : Nat × (Nat → Int32)} {d n : Nat} {I : mI} {J : mJ} {R : mR} (hn : 122 ≤ n) (hR : m_fin R) {K N P F : Nat → Int32} {k0 k1 : Nat}  : RUN S (d + 1) YReader_isTooMany [.ref 40, .int (nI 0)] (m_row (m_row (m_row (m_row I 40 F) 57 K) 58 N) 59 P) J R n (some (.int (tmV I (4 * k0 + k1) 0))) (m_row (m_row (m_row (m_row I 40 F) 57 K) 58 N) 59 P) J R n := by
  show AW S _ YReader_isTooMany n n _ 0 [(0, .ref 40), (1, .int (nI 0))] [] (m_row (m_row (m_row (m_row I 40 F) 57 K) 58 N) 59 P) J R n
  refine a_iload_n 1 dReader_isTooMany_0 rfl rfl ?_
  refine a_tab (c := 0) (off := 55) (tgt := 56) dReader_isTooMany_1 rfl (by decide) (by decide) (by decide) (by decide) ?_
  refine a_iconstN (a := 0) dReader_isTooMany_56 (by decide) ?_
  exact a_zret dReader_isTooMany_57 rfl (by rfl) ⟨rfl, rfl, rfl, rfl⟩
theorem c_tooMany1 {S : Nat × (Nat → Int32)} {d n : Nat} {I : mI} {J : mJ} {R : mR} (hn : 122 ≤ n) (hR : m_fin R) {K N P F : Nat → Int32} {k0 k1 : Nat}  : RUN S (d + 1) YReader_isTooMany [.ref 40, .int (nI 1)] (m_row (m_row (m_row (m_row I 40 F) 57 K) 58 N) 59 P) J R n (some (.int (tmV I (4 * k0 + k1) 1))) (m_row (m_row (m_row (m_row I 40 F) 57 K) 58 N) 59 P) J R n := by
  show AW S _ YReader_isTooMany n n _ 0 [(0, .ref 40), (1, .int (nI 1))] [] (m_row (m_row (m_row (m_row I 40 F) 57 K) 58 N) 59 P) J R n
  refine a_iload_n 1 dReader_isTooMany_0 rfl rfl ?_
  refine a_tab (c := 1) (off := 55) (tgt := 56) dReader_isTooMany_1 rfl (by decide) (by decide) (by decide) (by decide) ?_
  refine a_iconstN (a := 0) dReader_isTooMany_56 (by decide) ?_
  exact a_zret dReader_isTooMany_57 rfl (by rfl) ⟨rfl, rfl, rfl, rfl⟩
theorem c_tooMany2 {S : Nat × (Nat → Int32)} {d n : Nat} {I : mI} {J : mJ} {R : mR} (hn : 122 ≤ n) (hR : m_fin R) {K N P F : Nat → Int32} {k0 k1 : Nat}  : RUN S (d + 1) YReader_isTooMany [.ref 40, .int (nI 2)] (m_row (m_row (m_row (m_row I 40 F) 57 K) 58 N) 59 P) J R n (some (.int (tmV I (4 * k0 + k1) 2))) (m_row (m_row (m_row (m_row I 40 F) 57 K) 58 N) 59 P) J R n := by
  show AW S _ YReader_isTooMany n n _ 0 [(0, .ref 40), (1, .int (nI 2))] [] (m_row (m_row (m_row (m_row I 40 F) 57 K) 58 N) 59 P) J R n
  refine a_iload_n 1 dReader_isTooMany_0 rfl rfl ?_
  refine a_tab (c := 2) (off := 57) (tgt := 58) dReader_isTooMany_1 rfl (by decide) (by decide) (by decide) (by decide) ?_
  refine a_aload_n 0 dReader_isTooMany_58 rfl rfl ?_
  refine a_geta (r := 41) dReader_isTooMany_59 fl7_12 rfl ly_40 (by omega) (rf_40_0 hR) ?_
  refine a_geti dReader_isTooMany_62 fl7_111 rfl ly_41 (by omega) ?_
  rw [show (m_row (m_row (m_row (m_row I 40 F) 57 K) 58 N) 59 P) 41 1 = I 41 1 from rfl]
  refine a_bipushN (a := 10) dReader_isTooMany_65 (by decide) ?_
  refine a_icmp_lt (tgt := 74) dReader_isTooMany_67 (by decide) (fun c67 => ?_) (fun c67 => ?_)
  · refine a_iconstN (a := 0) dReader_isTooMany_74 (by decide) ?_
    exact a_zret dReader_isTooMany_75 rfl (by rfl) ⟨by unfold tmV; simp only [reduceIte, Nat.reduceEqDiff, or_self, or_true, true_or, or_false, false_or]; first | rfl | (rw [if_pos c67]; rfl), rfl, rfl, rfl⟩
  · refine a_iconstN (a := 1) dReader_isTooMany_70 (by decide) ?_
    refine a_goto (tgt := 75) dReader_isTooMany_71 (by decide) ?_
    exact a_zret dReader_isTooMany_75 rfl (by rfl) ⟨by unfold tmV; simp only [reduceIte, Nat.reduceEqDiff, or_self, or_true, true_or, or_false, false_or]; first | rfl | (rw [if_neg c67]; rfl), rfl, rfl, rfl⟩
theorem c_tooMany3 {S : Nat × (Nat → Int32)} {d n : Nat} {I : mI} {J : mJ} {R : mR} (hn : 122 ≤ n) (hR : m_fin R) {K N P F : Nat → Int32} {k0 k1 : Nat} (hk0 : K 0 = nI k0) (hk1 : K 1 = nI k1) (hk04 : k0 < 4) (hk14 : k1 < 4)  : RUN S (d + 1) YReader_isTooMany [.ref 40, .int (nI 3)] (m_row (m_row (m_row (m_row I 40 F) 57 K) 58 N) 59 P) J R n (some (.int (tmV I (4 * k0 + k1) 3))) (m_row (m_row (m_row (m_row I 40 F) 57 K) 58 N) 59 P) J R n := by
  show AW S _ YReader_isTooMany n n _ 0 [(0, .ref 40), (1, .int (nI 3))] [] (m_row (m_row (m_row (m_row I 40 F) 57 K) 58 N) 59 P) J R n
  refine a_iload_n 1 dReader_isTooMany_0 rfl rfl ?_
  refine a_tab (c := 3) (off := 75) (tgt := 76) dReader_isTooMany_1 rfl (by decide) (by decide) (by decide) (by decide) ?_
  refine a_aload_n 0 dReader_isTooMany_76 rfl rfl ?_
  refine a_geta (r := 41) dReader_isTooMany_77 fl7_12 rfl ly_40 (by omega) (rf_40_0 hR) ?_
  refine a_geti dReader_isTooMany_80 fl7_215 rfl ly_41 (by omega) ?_
  rw [show (m_row (m_row (m_row (m_row I 40 F) 57 K) 58 N) 59 P) 41 2 = I 41 2 from rfl]
  refine a_bipushN (a := 8) dReader_isTooMany_83 (by decide) ?_
  refine a_icmp_lt (tgt := 108) dReader_isTooMany_85 (by decide) (fun c85 => ?_) (fun c85 => ?_)
  · refine a_iconstN (a := 0) dReader_isTooMany_108 (by decide) ?_
    exact a_zret dReader_isTooMany_109 rfl (by rfl) ⟨by unfold tmV; simp only [reduceIte, Nat.reduceEqDiff, or_self, or_true, true_or, or_false, false_or]; first | rfl | (rw [if_pos c85]; rfl), rfl, rfl, rfl⟩
  · refine a_aload_n 0 dReader_isTooMany_88 rfl rfl ?_
    refine a_geta (r := 41) dReader_isTooMany_89 fl7_12 rfl ly_40 (by omega) (rf_40_0 hR) ?_
    refine a_geta (r := 49) dReader_isTooMany_92 fl7_218 rfl ly_41 (by omega) (rf_41_10 hR) ?_
    refine a_aload_n 0 dReader_isTooMany_95 rfl rfl ?_
    refine a_callV (Q' := m_res (some (.int (nI (4 * k0 + k1)))) (m_row (m_row (m_row (m_row I 40 F) 57 K) 58 N) 59 P) J R) (as := []) (st := [.ref 49]) dReader_isTooMany_96 ml7_221 rfl (Nat.le_of_ble_eq_true rfl) ly_40 rfl rfl (by decide) (by omega) (Nat.le_of_ble_eq_true rfl) rfl (Nat.le_refl _) (Nat.le_refl _) (c_lawAtHand hn hR hk0 hk1 hk04 hk14) (m_go ?_)
    show AW _ _ _ _ _ _ _ _ [.int (nI (4 * k0 + k1)), .ref 49] _ _ _ _
    refine a_ialdN (a := (4 * k0 + k1)) dReader_isTooMany_99 ly_49 (by omega) (by omega) (by decide) ?_
    rw [show (m_row (m_row (m_row (m_row I 40 F) 57 K) 58 N) 59 P) 49 (4 * k0 + k1) = I 49 (4 * k0 + k1) from rfl]
    refine a_iconst (v := -1) dReader_isTooMany_100 (by decide) ?_
    refine a_icmp_ne (tgt := 108) dReader_isTooMany_101 (by decide) (fun c101 => ?_) (fun c101 => ?_)
    · refine a_iconstN (a := 0) dReader_isTooMany_108 (by decide) ?_
      exact a_zret dReader_isTooMany_109 rfl (by rfl) ⟨by unfold tmV; simp only [reduceIte, Nat.reduceEqDiff, or_self, or_true, true_or, or_false, false_or]; first | rfl | (rw [if_neg c85, if_neg c101]; rfl), rfl, rfl, rfl⟩
    · refine a_iconstN (a := 1) dReader_isTooMany_104 (by decide) ?_
      refine a_goto (tgt := 109) dReader_isTooMany_105 (by decide) ?_
      exact a_zret dReader_isTooMany_109 rfl (by rfl) ⟨by unfold tmV; simp only [reduceIte, Nat.reduceEqDiff, or_self, or_true, true_or, or_false, false_or]; first | rfl | (rw [if_neg c85, if_pos c101]; rfl), rfl, rfl, rfl⟩
theorem c_tooMany4 {S : Nat × (Nat → Int32)} {d n : Nat} {I : mI} {J : mJ} {R : mR} (hn : 122 ≤ n) (hR : m_fin R) {K N P F : Nat → Int32} {k0 k1 : Nat}  : RUN S (d + 1) YReader_isTooMany [.ref 40, .int (nI 4)] (m_row (m_row (m_row (m_row I 40 F) 57 K) 58 N) 59 P) J R n (some (.int (tmV I (4 * k0 + k1) 4))) (m_row (m_row (m_row (m_row I 40 F) 57 K) 58 N) 59 P) J R n := by
  show AW S _ YReader_isTooMany n n _ 0 [(0, .ref 40), (1, .int (nI 4))] [] (m_row (m_row (m_row (m_row I 40 F) 57 K) 58 N) 59 P) J R n
  refine a_iload_n 1 dReader_isTooMany_0 rfl rfl ?_
  refine a_tab (c := 4) (off := 55) (tgt := 56) dReader_isTooMany_1 rfl (by decide) (by decide) (by decide) (by decide) ?_
  refine a_iconstN (a := 0) dReader_isTooMany_56 (by decide) ?_
  exact a_zret dReader_isTooMany_57 rfl (by rfl) ⟨rfl, rfl, rfl, rfl⟩
theorem c_tooMany5 {S : Nat × (Nat → Int32)} {d n : Nat} {I : mI} {J : mJ} {R : mR} (hn : 122 ≤ n) (hR : m_fin R) {K N P F : Nat → Int32} {k0 k1 : Nat}  : RUN S (d + 1) YReader_isTooMany [.ref 40, .int (nI 5)] (m_row (m_row (m_row (m_row I 40 F) 57 K) 58 N) 59 P) J R n (some (.int (tmV I (4 * k0 + k1) 5))) (m_row (m_row (m_row (m_row I 40 F) 57 K) 58 N) 59 P) J R n := by
  show AW S _ YReader_isTooMany n n _ 0 [(0, .ref 40), (1, .int (nI 5))] [] (m_row (m_row (m_row (m_row I 40 F) 57 K) 58 N) 59 P) J R n
  refine a_iload_n 1 dReader_isTooMany_0 rfl rfl ?_
  refine a_tab (c := 5) (off := 127) (tgt := 128) dReader_isTooMany_1 rfl (by decide) (by decide) (by decide) (by decide) ?_
  refine a_aload_n 0 dReader_isTooMany_128 rfl rfl ?_
  refine a_geta (r := 50) dReader_isTooMany_129 fl7_21 rfl ly_40 (by omega) (rf_40_1 hR) ?_
  refine a_geti dReader_isTooMany_132 fl7_102 rfl ly_50 (by omega) ?_
  rw [show (m_row (m_row (m_row (m_row I 40 F) 57 K) 58 N) 59 P) 50 0 = I 50 0 from rfl]
  refine a_bipushN (a := 40) dReader_isTooMany_135 (by decide) ?_
  refine a_icmp_lt (tgt := 144) dReader_isTooMany_137 (by decide) (fun c137 => ?_) (fun c137 => ?_)
  · refine a_iconstN (a := 0) dReader_isTooMany_144 (by decide) ?_
    exact a_zret dReader_isTooMany_145 rfl (by rfl) ⟨by unfold tmV; simp only [reduceIte, Nat.reduceEqDiff, or_self, or_true, true_or, or_false, false_or]; first | rfl | (rw [if_pos c137]; rfl), rfl, rfl, rfl⟩
  · refine a_iconstN (a := 1) dReader_isTooMany_140 (by decide) ?_
    refine a_goto (tgt := 145) dReader_isTooMany_141 (by decide) ?_
    exact a_zret dReader_isTooMany_145 rfl (by rfl) ⟨by unfold tmV; simp only [reduceIte, Nat.reduceEqDiff, or_self, or_true, true_or, or_false, false_or]; first | rfl | (rw [if_neg c137]; rfl), rfl, rfl, rfl⟩
theorem c_tooMany6 {S : Nat × (Nat → Int32)} {d n : Nat} {I : mI} {J : mJ} {R : mR} (hn : 122 ≤ n) (hR : m_fin R) {K N P F : Nat → Int32} {k0 k1 : Nat}  : RUN S (d + 1) YReader_isTooMany [.ref 40, .int (nI 6)] (m_row (m_row (m_row (m_row I 40 F) 57 K) 58 N) 59 P) J R n (some (.int (tmV I (4 * k0 + k1) 6))) (m_row (m_row (m_row (m_row I 40 F) 57 K) 58 N) 59 P) J R n := by
  show AW S _ YReader_isTooMany n n _ 0 [(0, .ref 40), (1, .int (nI 6))] [] (m_row (m_row (m_row (m_row I 40 F) 57 K) 58 N) 59 P) J R n
  refine a_iload_n 1 dReader_isTooMany_0 rfl rfl ?_
  refine a_tab (c := 6) (off := 127) (tgt := 128) dReader_isTooMany_1 rfl (by decide) (by decide) (by decide) (by decide) ?_
  refine a_aload_n 0 dReader_isTooMany_128 rfl rfl ?_
  refine a_geta (r := 50) dReader_isTooMany_129 fl7_21 rfl ly_40 (by omega) (rf_40_1 hR) ?_
  refine a_geti dReader_isTooMany_132 fl7_102 rfl ly_50 (by omega) ?_
  rw [show (m_row (m_row (m_row (m_row I 40 F) 57 K) 58 N) 59 P) 50 0 = I 50 0 from rfl]
  refine a_bipushN (a := 40) dReader_isTooMany_135 (by decide) ?_
  refine a_icmp_lt (tgt := 144) dReader_isTooMany_137 (by decide) (fun c137 => ?_) (fun c137 => ?_)
  · refine a_iconstN (a := 0) dReader_isTooMany_144 (by decide) ?_
    exact a_zret dReader_isTooMany_145 rfl (by rfl) ⟨by unfold tmV; simp only [reduceIte, Nat.reduceEqDiff, or_self, or_true, true_or, or_false, false_or]; first | rfl | (rw [if_pos c137]; rfl), rfl, rfl, rfl⟩
  · refine a_iconstN (a := 1) dReader_isTooMany_140 (by decide) ?_
    refine a_goto (tgt := 145) dReader_isTooMany_141 (by decide) ?_
    exact a_zret dReader_isTooMany_145 rfl (by rfl) ⟨by unfold tmV; simp only [reduceIte, Nat.reduceEqDiff, or_self, or_true, true_or, or_false, false_or]; first | rfl | (rw [if_neg c137]; rfl), rfl, rfl, rfl⟩
theorem c_tooMany7 {S : Nat × (Nat → Int32)} {d n : Nat} {I : mI} {J : mJ} {R : mR} (hn : 122 ≤ n) (hR : m_fin R) {K N P F : Nat → Int32} {k0 k1 : Nat}  : RUN S (d + 1) YReader_isTooMany [.ref 40, .int (nI 7)] (m_row (m_row (m_row (m_row I 40 F) 57 K) 58 N) 59 P) J R n (some (.int (tmV I (4 * k0 + k1) 7))) (m_row (m_row (m_row (m_row I 40 F) 57 K) 58 N) 59 P) J R n := by
  show AW S _ YReader_isTooMany n n _ 0 [(0, .ref 40), (1, .int (nI 7))] [] (m_row (m_row (m_row (m_row I 40 F) 57 K) 58 N) 59 P) J R n
  refine a_iload_n 1 dReader_isTooMany_0 rfl rfl ?_
  refine a_tab (c := 7) (off := 127) (tgt := 128) dReader_isTooMany_1 rfl (by decide) (by decide) (by decide) (by decide) ?_
  refine a_aload_n 0 dReader_isTooMany_128 rfl rfl ?_
  refine a_geta (r := 50) dReader_isTooMany_129 fl7_21 rfl ly_40 (by omega) (rf_40_1 hR) ?_
  refine a_geti dReader_isTooMany_132 fl7_102 rfl ly_50 (by omega) ?_
  rw [show (m_row (m_row (m_row (m_row I 40 F) 57 K) 58 N) 59 P) 50 0 = I 50 0 from rfl]
  refine a_bipushN (a := 40) dReader_isTooMany_135 (by decide) ?_
  refine a_icmp_lt (tgt := 144) dReader_isTooMany_137 (by decide) (fun c137 => ?_) (fun c137 => ?_)
  · refine a_iconstN (a := 0) dReader_isTooMany_144 (by decide) ?_
    exact a_zret dReader_isTooMany_145 rfl (by rfl) ⟨by unfold tmV; simp only [reduceIte, Nat.reduceEqDiff, or_self, or_true, true_or, or_false, false_or]; first | rfl | (rw [if_pos c137]; rfl), rfl, rfl, rfl⟩
  · refine a_iconstN (a := 1) dReader_isTooMany_140 (by decide) ?_
    refine a_goto (tgt := 145) dReader_isTooMany_141 (by decide) ?_
    exact a_zret dReader_isTooMany_145 rfl (by rfl) ⟨by unfold tmV; simp only [reduceIte, Nat.reduceEqDiff, or_self, or_true, true_or, or_false, false_or]; first | rfl | (rw [if_neg c137]; rfl), rfl, rfl, rfl⟩
theorem c_tooMany8 {S : Nat × (Nat → Int32)} {d n : Nat} {I : mI} {J : mJ} {R : mR} (hn : 122 ≤ n) (hR : m_fin R) {K N P F : Nat → Int32} {k0 k1 : Nat}  : RUN S (d + 1) YReader_isTooMany [.ref 40, .int (nI 8)] (m_row (m_row (m_row (m_row I 40 F) 57 K) 58 N) 59 P) J R n (some (.int (tmV I (4 * k0 + k1) 8))) (m_row (m_row (m_row (m_row I 40 F) 57 K) 58 N) 59 P) J R n := by
  show AW S _ YReader_isTooMany n n _ 0 [(0, .ref 40), (1, .int (nI 8))] [] (m_row (m_row (m_row (m_row I 40 F) 57 K) 58 N) 59 P) J R n
  refine a_iload_n 1 dReader_isTooMany_0 rfl rfl ?_
  refine a_tab (c := 8) (off := 127) (tgt := 128) dReader_isTooMany_1 rfl (by decide) (by decide) (by decide) (by decide) ?_
  refine a_aload_n 0 dReader_isTooMany_128 rfl rfl ?_
  refine a_geta (r := 50) dReader_isTooMany_129 fl7_21 rfl ly_40 (by omega) (rf_40_1 hR) ?_
  refine a_geti dReader_isTooMany_132 fl7_102 rfl ly_50 (by omega) ?_
  rw [show (m_row (m_row (m_row (m_row I 40 F) 57 K) 58 N) 59 P) 50 0 = I 50 0 from rfl]
  refine a_bipushN (a := 40) dReader_isTooMany_135 (by decide) ?_
  refine a_icmp_lt (tgt := 144) dReader_isTooMany_137 (by decide) (fun c137 => ?_) (fun c137 => ?_)
  · refine a_iconstN (a := 0) dReader_isTooMany_144 (by decide) ?_
    exact a_zret dReader_isTooMany_145 rfl (by rfl) ⟨by unfold tmV; simp only [reduceIte, Nat.reduceEqDiff, or_self, or_true, true_or, or_false, false_or]; first | rfl | (rw [if_pos c137]; rfl), rfl, rfl, rfl⟩
  · refine a_iconstN (a := 1) dReader_isTooMany_140 (by decide) ?_
    refine a_goto (tgt := 145) dReader_isTooMany_141 (by decide) ?_
    exact a_zret dReader_isTooMany_145 rfl (by rfl) ⟨by unfold tmV; simp only [reduceIte, Nat.reduceEqDiff, or_self, or_true, true_or, or_false, false_or]; first | rfl | (rw [if_neg c137]; rfl), rfl, rfl, rfl⟩
theorem c_tooMany9 {S : Nat × (Nat → Int32)} {d n : Nat} {I : mI} {J : mJ} {R : mR} (hn : 122 ≤ n) (hR : m_fin R) {K N P F : Nat → Int32} {k0 k1 : Nat}  : RUN S (d + 1) YReader_isTooMany [.ref 40, .int (nI 9)] (m_row (m_row (m_row (m_row I 40 F) 57 K) 58 N) 59 P) J R n (some (.int (tmV I (4 * k0 + k1) 9))) (m_row (m_row (m_row (m_row I 40 F) 57 K) 58 N) 59 P) J R n := by
  show AW S _ YReader_isTooMany n n _ 0 [(0, .ref 40), (1, .int (nI 9))] [] (m_row (m_row (m_row (m_row I 40 F) 57 K) 58 N) 59 P) J R n
  refine a_iload_n 1 dReader_isTooMany_0 rfl rfl ?_
  refine a_tab (c := 9) (off := 109) (tgt := 110) dReader_isTooMany_1 rfl (by decide) (by decide) (by decide) (by decide) ?_
  refine a_aload_n 0 dReader_isTooMany_110 rfl rfl ?_
  refine a_geta (r := 54) dReader_isTooMany_111 fl7_28 rfl ly_40 (by omega) (rf_40_2 hR) ?_
  refine a_geti dReader_isTooMany_114 fl7_105 rfl ly_54 (by omega) ?_
  rw [show (m_row (m_row (m_row (m_row I 40 F) 57 K) 58 N) 59 P) 54 0 = I 54 0 from rfl]
  refine a_bipushN (a := 8) dReader_isTooMany_117 (by decide) ?_
  refine a_icmp_lt (tgt := 126) dReader_isTooMany_119 (by decide) (fun c119 => ?_) (fun c119 => ?_)
  · refine a_iconstN (a := 0) dReader_isTooMany_126 (by decide) ?_
    exact a_zret dReader_isTooMany_127 rfl (by rfl) ⟨by unfold tmV; simp only [reduceIte, Nat.reduceEqDiff, or_self, or_true, true_or, or_false, false_or]; first | rfl | (rw [if_pos c119]; rfl), rfl, rfl, rfl⟩
  · refine a_iconstN (a := 1) dReader_isTooMany_122 (by decide) ?_
    refine a_goto (tgt := 127) dReader_isTooMany_123 (by decide) ?_
    exact a_zret dReader_isTooMany_127 rfl (by rfl) ⟨by unfold tmV; simp only [reduceIte, Nat.reduceEqDiff, or_self, or_true, true_or, or_false, false_or]; first | rfl | (rw [if_neg c119]; rfl), rfl, rfl, rfl⟩
def noF (F : Nat → Int32) (f pl : Int32) : Nat → Int32 := if F 3 = 0 then va_up (va_up F 3 f) 4 pl else F
theorem c_note {S : Nat × (Nat → Int32)} {d n : Nat} {I : mI} {J : mJ} {R : mR} (hn : 122 ≤ n) (hR : m_fin R) {K N P F : Nat → Int32} {f pl : Int32}  : RUN S d YReader_note [.ref 40, .int f, .int pl] (m_row (m_row (m_row (m_row I 40 F) 57 K) 58 N) 59 P) J R n none (m_row (m_row (m_row (m_row I 40 (noF F f pl)) 57 K) 58 N) 59 P) J R n := by
  show AW S _ YReader_note n n _ 0 [(0, .ref 40), (1, .int f), (2, .int pl)] [] (m_row (m_row (m_row (m_row I 40 F) 57 K) 58 N) 59 P) J R n
  refine a_aload_n 0 dReader_note_0 rfl rfl ?_
  refine a_geti dReader_note_1 fl7_60 rfl ly_40 (by omega) ?_
  rw [show (m_row (m_row (m_row (m_row I 40 F) 57 K) 58 N) 59 P) 40 3 = F 3 from rfl]
  refine a_if_ne (tgt := 17) dReader_note_4 (by decide) (fun c4 => ?_) (fun c4 => ?_)
  · exact a_vret dReader_note_17 rfl ⟨rfl, by unfold noF; rw [if_neg c4], rfl, rfl⟩
  · refine a_aload_n 0 dReader_note_7 rfl rfl ?_
    refine a_iload_n 1 dReader_note_8 rfl rfl ?_
    refine a_puti dReader_note_9 fl7_60 rfl ly_40 (by omega) ?_
    rw [show m_up (m_row (m_row (m_row (m_row I 40 F) 57 K) 58 N) 59 P) 40 3 f = (m_row (m_row (m_row (m_row I 40 (va_up F 3 f)) 57 K) 58 N) 59 P) from (by rw [m_up_comm (by decide), m_up_comm (by decide), m_up_comm (by decide), m_up_r])]
    refine a_aload_n 0 dReader_note_12 rfl rfl ?_
    refine a_iload_n 2 dReader_note_13 rfl rfl ?_
    refine a_puti dReader_note_14 fl7_66 rfl ly_40 (by omega) ?_
    rw [show m_up (m_row (m_row (m_row (m_row I 40 (va_up F 3 f)) 57 K) 58 N) 59 P) 40 4 pl = (m_row (m_row (m_row (m_row I 40 (va_up (va_up F 3 f) 4 pl)) 57 K) 58 N) 59 P) from (by rw [m_up_comm (by decide), m_up_comm (by decide), m_up_comm (by decide), m_up_r])]
    exact a_vret dReader_note_17 rfl ⟨rfl, by unfold noF; rw [if_pos c4], rfl, rfl⟩
