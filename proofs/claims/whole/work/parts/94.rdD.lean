theorem c_lawAtHand {S : Nat × (Nat → Int32)} {d n : Nat} {I : mI} {J : mJ} {R : mR} (hn : 122 ≤ n) (hR : m_fin R) {K N P F : Nat → Int32} {k0 k1 : Nat} (hk0 : K 0 = nI k0) (hk1 : K 1 = nI k1) (hk04 : k0 < 4) (hk14 : k1 < 4)  : RUN S d YReader_lawAtHand [.ref 40] (m_row (m_row (m_row (m_row I 40 F) 57 K) 58 N) 59 P) J R n (some (.int (nI (4 * k0 + k1)))) (m_row (m_row (m_row (m_row I 40 F) 57 K) 58 N) 59 P) J R n := by
  show AW S _ YReader_lawAtHand n n _ 0 [(0, .ref 40)] [] (m_row (m_row (m_row (m_row I 40 F) 57 K) 58 N) 59 P) J R n
  refine a_iconstN (a := 4) dReader_lawAtHand_0 (by decide) ?_
  refine a_aload_n 0 dReader_lawAtHand_1 rfl rfl ?_
  refine a_geta (r := 57) dReader_lawAtHand_2 fl7_32 rfl ly_40 (by omega) (rf_40_11 hR) ?_
  refine a_iconstN (a := 0) dReader_lawAtHand_5 (by decide) ?_
  refine a_ialdN (a := 0) dReader_lawAtHand_6 ly_57 (by omega) (by omega) (by decide) ?_
  rw [show (m_row (m_row (m_row (m_row I 40 F) 57 K) 58 N) 59 P) 57 0 = K 0 from rfl]
  rw [show (K 0) = (nI k0) from hk0]
  refine a_imulN (a := 4) (b := k0) dReader_lawAtHand_7 ?_
  refine a_aload_n 0 dReader_lawAtHand_8 rfl rfl ?_
  refine a_geta (r := 57) dReader_lawAtHand_9 fl7_32 rfl ly_40 (by omega) (rf_40_11 hR) ?_
  refine a_iconstN (a := 1) dReader_lawAtHand_12 (by decide) ?_
  refine a_ialdN (a := 1) dReader_lawAtHand_13 ly_57 (by omega) (by omega) (by decide) ?_
  rw [show (m_row (m_row (m_row (m_row I 40 F) 57 K) 58 N) 59 P) 57 1 = K 1 from rfl]
  rw [show (K 1) = (nI k1) from hk1]
  refine a_iaddN (a := (4 * k0)) (b := k1) dReader_lawAtHand_14 ?_
  exact a_iret dReader_lawAtHand_15 rfl ⟨rfl, rfl, rfl, rfl⟩
/-- is a line one too many -/
def tmV (I : mI) (law : Nat) (l : Nat) : Int32 := if l = 2 then (if I 41 1 < nI 10 then 0 else 1) else if l = 3 then (if I 41 2 < nI 8 then 0 else if I 49 law = -1 then 1 else 0) else if l = 9 then (if I 54 0 < nI 8 then 0 else 1) else if l = 0 ∨ l = 1 ∨ l = 4 then 0 else (if I 50 0 < nI 40 then 0 else 1)
theorem c_tooMany0 {S : Nat × (Nat → Int32)} {d n : Nat} {I : mI} {J : mJ} {R : mR} (hn : 122 ≤ n) (hR : m_fin R) {K N P F : Nat → Int32} {k0 k1 : Nat}  : RUN S (d + 1) YReader_isTooMany [.ref 40, .int (nI 0)] (m_row (m_row (m_row (m_row I 40 F) 57 K) 58 N) 59 P) J R n (some (.int (tmV I (4 * k0 + k1) 0))) (m_row (m_row (m_row (m_row I 40 F) 57 K) 58 N) 59 P) J R n := by
  show AW S _ YReader_isTooMany n n _ 0 [(0, .ref 40), (1, .int (nI 0))] [] (m_row (m_row (m_row (m_row I 40 F) 57 K) 58 N) 59 P) J R n
  refine a_iload_n 1 dReader_isTooMany_0 rfl rfl ?_
  refine a_tab (c := 0) (off := 55) (tgt := 56) dReader_isTooMany_1 rfl (by decide) (by decide) (by decide) (by decide) ?_
  refine a_iconstN (a := 0) dReader_isTooMany_56 (by decide) ?_
  exact a_zret dReader_isTooMany_57 rfl (by rfl) ⟨rfl, rfl, rfl, rfl⟩
theorem c_tooMany1 {S : Nat × (Nat → Int32)} {d n : Nat} {I : mI} {J : mJ} {R : mR} (hn : 122 ≤ n) (hR : m_fin R) {K N P F : Nat → Int32} {k0 k1 : Nat}  : RUN S (d + 1) YReader_isTooMany [.ref 40, .int (nI 1)] (m_row (m_row (m_row (m_row I 40 F) 57 K) 58 N) 59 P) J R n (some (.int (tmV I (4 * k0 + k1) 1))) (m_row (m_row (m_row (m_row I 40 F) 57 K) 58 N) 59 P) J R n := by
  show AW S _ YReader_isTooMany n n _ 0 [(0, .ref 40), (1, .int (nI 1))] [] (m_row (m_row (m_row (m_row I 40 F) 57 K) 58 N) 59 P) J R n
  refine a_iload_n 1 dReader_isTooMany_0 rfl rfl ?_
  refine a_tab (c := 1) (off := 55) (tgt := 56) dReader_isTooMany_1 rfl (by decide) (by decide) (by decide) (by decide) ?_
  refine a_iconstN (a := 0) dReader_isTooMany_56 (by decide) ?_
  exact a_zret dReader_isTooMany_57 rfl (by rfl) ⟨rfl, rfl, rfl, rfl⟩
theorem c_tooMany2 {S : Nat × (Nat → Int32)} {d n : Nat} {I : mI} {J : mJ} {R : mR} (hn : 122 ≤ n) (hR : m_fin R) {K N P F : Nat → Int32} {k0 k1 : Nat}  : RUN S (d + 1) YReader_isTooMany [.ref 40, .int (nI 2)] (m_row (m_row (m_row (m_row I 40 F) 57 K) 58 N) 59 P) J R n (some (.int (tmV I (4 * k0 + k1) 2))) (m_row (m_row (m_row (m_row I 40 F) 57 K) 58 N) 59 P) J R n := by
  show AW S _ YReader_isTooMany n n _ 0 [(0, .ref 40), (1, .int (nI 2))] [] (m_row (m_row (m_row (m_row I 40 F) 57 K) 58 N) 59 P) J R n
  refine a_iload_n 1 dReader_isTooMany_0 rfl rfl ?_
  refine a_tab (c := 2) (off := 57) (tgt := 58) dReader_isTooMany_1 rfl (by decide) (by decide) (by decide) (by decide) ?_
  refine a_aload_n 0 dReader_isTooMany_58 rfl rfl ?_
  refine a_geta (r := 41) dReader_isTooMany_59 fl7_12 rfl ly_40 (by omega) (rf_40_0 hR) ?_
  refine a_geti dReader_isTooMany_62 fl7_111 rfl ly_41 (by omega) ?_
  rw [show (m_row (m_row (m_row (m_row I 40 F) 57 K) 58 N) 59 P) 41 1 = I 41 1 from rfl]
  refine a_bipushN (a := 10) dReader_isTooMany_65 (by decide) ?_
  refine a_icmp_lt (tgt := 74) dReader_isTooMany_67 (by decide) (fun c67 => ?_) (fun c67 => ?_)
  · refine a_iconstN (a := 0) dReader_isTooMany_74 (by decide) ?_
    exact a_zret dReader_isTooMany_75 rfl (by rfl) ⟨by unfold tmV; simp only [reduceIte, Nat.reduceEqDiff, or_self, or_true, true_or, or_false, false_or]; first | rfl | (rw [if_pos c67]; rfl), rfl, rfl, rfl⟩
  · refine a_iconstN (a := 1) dReader_isTooMany_70 (by decide) ?_
    refine a_goto (tgt := 75) dReader_isTooMany_71 (by decide) ?_
    exact a_zret dReader_isTooMany_75 rfl (by rfl) ⟨by unfold tmV; simp only [reduceIte, Nat.reduceEqDiff, or_self, or_true, true_or, or_false, false_or]; first | rfl | (rw [if_neg c67]; rfl), rfl, rfl, rfl⟩
theorem c_tooMany3 {S : Nat × (Nat → Int32)} {d n : Nat} {I : mI} {J : mJ} {R : mR} (hn : 122 ≤ n) (hR : m_fin R) {K N P F : Nat → Int32} {k0 k1 : Nat} (hk0 : K 0 = nI k0) (hk1 : K 1 = nI k1) (hk04 : k0 < 4) (hk14 : k1 < 4)  : RUN S (d + 1) YReader_isTooMany [.ref 40, .int (nI 3)] (m_row (m_row (m_row (m_row I 40 F) 57 K) 58 N) 59 P) J R n (some (.int (tmV I (4 * k0 + k1) 3))) (m_row (m_row (m_row (m_row I 40 F) 57 K) 58 N) 59 P) J R n := by
  show AW S _ YReader_isTooMany n n _ 0 [(0, .ref 40), (1, .int (nI 3))] [] (m_row (m_row (m_row (m_row I 40 F) 57 K) 58 N) 59 P) J R n
  refine a_iload_n 1 dReader_isTooMany_0 rfl rfl ?_
  refine a_tab (c := 3) (off := 75) (tgt := 76) dReader_isTooMany_1 rfl (by decide) (by decide) (by decide) (by decide) ?_
  refine a_aload_n 0 dReader_isTooMany_76 rfl rfl ?_
  refine a_geta (r := 41) dReader_isTooMany_77 fl7_12 rfl ly_40 (by omega) (rf_40_0 hR) ?_
  refine a_geti dReader_isTooMany_80 fl7_215 rfl ly_41 (by omega) ?_
  rw [show (m_row (m_row (m_row (m_row I 40 F) 57 K) 58 N) 59 P) 41 2 = I 41 2 from rfl]
  refine a_bipushN (a := 8) dReader_isTooMany_83 (by decide) ?_
  refine a_icmp_lt (tgt := 108) dReader_isTooMany_85 (by decide) (fun c85 => ?_) (fun c85 => ?_)
  · refine a_iconstN (a := 0) dReader_isTooMany_108 (by decide) ?_
    exact a_zret dReader_isTooMany_109 rfl (by rfl) ⟨by unfold tmV; simp only [reduceIte, Nat.reduceEqDiff, or_self, or_true, true_or, or_false, false_or]; first | rfl | (rw [if_pos c85]; rfl), rfl, rfl, rfl⟩
  · refine a_aload_n 0 dReader_isTooMany_88 rfl rfl ?_
    refine a_geta (r := 41) dReader_isTooMany_89 fl7_12 rfl ly_40 (by omega) (rf_40_0 hR) ?_
    refine a_geta (r := 49) dReader_isTooMany_92 fl7_218 rfl ly_41 (by omega) (rf_41_10 hR) ?_
    refine a_aload_n 0 dReader_isTooMany_95 rfl rfl ?_
    refine a_callV (Q' := m_res (some (.int (nI (4 * k0 + k1)))) (m_row (m_row (m_row (m_row I 40 F) 57 K) 58 N) 59 P) J R) (as := []) (st := [.ref 49]) dReader_isTooMany_96 ml7_221 rfl (Nat.le_of_ble_eq_true rfl) ly_40 rfl rfl (by decide) (by omega) (Nat.le_of_ble_eq_true rfl) rfl (Nat.le_refl _) (Nat.le_refl _) (c_lawAtHand hn hR hk0 hk1 hk04 hk14) (m_go ?_)
    show AW _ _ _ _ _ _ _ _ [.int (nI (4 * k0 + k1)), .ref 49] _ _ _ _
    refine a_ialdN (a := (4 * k0 + k1)) dReader_isTooMany_99 ly_49 (by omega) (by omega) (by decide) ?_
    rw [show (m_row (m_row (m_row (m_row I 40 F) 57 K) 58 N) 59 P) 49 (4 * k0 + k1) = I 49 (4 * k0 + k1) from rfl]
    refine a_iconst (v := -1) dReader_isTooMany_100 (by decide) ?_
    refine a_icmp_ne (tgt := 108) dReader_isTooMany_101 (by decide) (fun c101 => ?_) (fun c101 => ?_)
    · refine a_iconstN (a := 0) dReader_isTooMany_108 (by decide) ?_
      exact a_zret dReader_isTooMany_109 rfl (by rfl) ⟨by unfold tmV; simp only [reduceIte, Nat.reduceEqDiff, or_self, or_true, true_or, or_false, false_or]; first | rfl | (rw [if_neg c85, if_neg c101]; rfl), rfl, rfl, rfl⟩
    · refine a_iconstN (a := 1) dReader_isTooMany_104 (by decide) ?_
      refine a_goto (tgt := 109) dReader_isTooMany_105 (by decide) ?_
      exact a_zret dReader_isTooMany_109 rfl (by rfl) ⟨by unfold tmV; simp only [reduceIte, Nat.reduceEqDiff, or_self, or_true, true_or, or_false, false_or]; first | rfl | (rw [if_neg c85, if_pos c101]; rfl), rfl, rfl, rfl⟩
theorem c_tooMany4 {S : Nat × (Nat → Int32)} {d n : Nat} {I : mI} {J : mJ} {R : mR} (hn : 122 ≤ n) (hR : m_fin R) {K N P F : Nat → Int32} {k0 k1 : Nat}  : RUN S (d + 1) YReader_isTooMany [.ref 40, .int (nI 4)] (m_row (m_row (m_row (m_row I 40 F) 57 K) 58 N) 59 P) J R n (some (.int (tmV I (4 * k0 + k1) 4))) (m_row (m_row (m_row (m_row I 40 F) 57 K) 58 N) 59 P) J R n := by
  show AW S _ YReader_isTooMany n n _ 0 [(0, .ref 40), (1, .int (nI 4))] [] (m_row (m_row (m_row (m_row I 40 F) 57 K) 58 N) 59 P) J R n
  refine a_iload_n 1 dReader_isTooMany_0 rfl rfl ?_
  refine a_tab (c := 4) (off := 55) (tgt := 56) dReader_isTooMany_1 rfl (by decide) (by decide) (by decide) (by decide) ?_
  refine a_iconstN (a := 0) dReader_isTooMany_56 (by decide) ?_
  exact a_zret dReader_isTooMany_57 rfl (by rfl) ⟨rfl, rfl, rfl, rfl⟩
theorem c_tooMany5 {S : Nat × (Nat → Int32)} {d n : Nat} {I : mI} {J : mJ} {R : mR} (hn : 122 ≤ n) (hR : m_fin R) {K N P F : Nat → Int32} {k0 k1 : Nat}  : RUN S (d + 1) YReader_isTooMany [.ref 40, .int (nI 5)] (m_row (m_row (m_row (m_row I 40 F) 57 K) 58 N) 59 P) J R n (some (.int (tmV I (4 * k0 + k1) 5))) (m_row (m_row (m_row (m_row I 40 F) 57 K) 58 N) 59 P) J R n := by
  show AW S _ YReader_isTooMany n n _ 0 [(0, .ref 40), (1, .int (nI 5))] [] (m_row (m_row (m_row (m_row I 40 F) 57 K) 58 N) 59 P) J R n
  refine a_iload_n 1 dReader_isTooMany_0 rfl rfl ?_
  refine a_tab (c := 5) (off := 127) (tgt := 128) dReader_isTooMany_1 rfl (by decide) (by decide) (by decide) (by decide) ?_
  refine a_aload_n 0 dReader_isTooMany_128 rfl rfl ?_
  refine a_geta (r := 50) dReader_isTooMany_129 fl7_21 rfl ly_40 (by omega) (rf_40_1 hR) ?_
  refine a_geti dReader_isTooMany_132 fl7_102 rfl ly_50 (by omega) ?_
  rw [show (m_row (m_row (m_row (m_row I 40 F) 57 K) 58 N) 59 P) 50 0 = I 50 0 from rfl]
  refine a_bipushN (a := 40) dReader_isTooMany_135 (by decide) ?_
  refine a_icmp_lt (tgt := 144) dReader_isTooMany_137 (by decide) (fun c137 => ?_) (fun c137 => ?_)
  · refine a_iconstN (a := 0) dReader_isTooMany_144 (by decide) ?_
    exact a_zret dReader_isTooMany_145 rfl (by rfl) ⟨by unfold tmV; simp only [reduceIte, Nat.reduceEqDiff, or_self, or_true, true_or, or_false, false_or]; first | rfl | (rw [if_pos c137]; rfl), rfl, rfl, rfl⟩
  · refine a_iconstN (a := 1) dReader_isTooMany_140 (by decide) ?_
    refine a_goto (tgt := 145) dReader_isTooMany_141 (by decide) ?_
    exact a_zret dReader_isTooMany_145 rfl (by rfl) ⟨by unfold tmV; simp only [reduceIte, Nat.reduceEqDiff, or_self, or_true, true_or, or_false, false_or]; first | rfl | (rw [if_neg c137]; rfl), rfl, rfl, rfl⟩
theorem c_tooMany6 {S : Nat × (Nat → Int32)} {d n : Nat} {I : mI} {J : mJ} {R : mR} (hn : 122 ≤ n) (hR : m_fin R) {K N P F : Nat → Int32} {k0 k1 : Nat}  : RUN S (d + 1) YReader_isTooMany [.ref 40, .int (nI 6)] (m_row (m_row (m_row (m_row I 40 F) 57 K) 58 N) 59 P) J R n (some (.int (tmV I (4 * k0 + k1) 6))) (m_row (m_row (m_row (m_row I 40 F) 57 K) 58 N) 59 P) J R n := by
  show AW S _ YReader_isTooMany n n _ 0 [(0, .ref 40), (1, .int (nI 6))] [] (m_row (m_row (m_row (m_row I 40 F) 57 K) 58 N) 59 P) J R n
  refine a_iload_n 1 dReader_isTooMany_0 rfl rfl ?_
  refine a_tab (c := 6) (off := 127) (tgt := 128) dReader_isTooMany_1 rfl (by decide) (by decide) (by decide) (by decide) ?_
  refine a_aload_n 0 dReader_isTooMany_128 rfl rfl ?_
  refine a_geta (r := 50) dReader_isTooMany_129 fl7_21 rfl ly_40 (by omega) (rf_40_1 hR) ?_
  refine a_geti dReader_isTooMany_132 fl7_102 rfl ly_50 (by omega) ?_
  rw [show (m_row (m_row (m_row (m_row I 40 F) 57 K) 58 N) 59 P) 50 0 = I 50 0 from rfl]
  refine a_bipushN (a := 40) dReader_isTooMany_135 (by decide) ?_
  refine a_icmp_lt (tgt := 144) dReader_isTooMany_137 (by decide) (fun c137 => ?_) (fun c137 => ?_)
  · refine a_iconstN (a := 0) dReader_isTooMany_144 (by decide) ?_
    exact a_zret dReader_isTooMany_145 rfl (by rfl) ⟨by unfold tmV; simp only [reduceIte, Nat.reduceEqDiff, or_self, or_true, true_or, or_false, false_or]; first | rfl | (rw [if_pos c137]; rfl), rfl, rfl, rfl⟩
  · refine a_iconstN (a := 1) dReader_isTooMany_140 (by decide) ?_
    refine a_goto (tgt := 145) dReader_isTooMany_141 (by decide) ?_
    exact a_zret dReader_isTooMany_145 rfl (by rfl) ⟨by unfold tmV; simp only [reduceIte, Nat.reduceEqDiff, or_self, or_true, true_or, or_false, false_or]; first | rfl | (rw [if_neg c137]; rfl), rfl, rfl, rfl⟩
theorem c_tooMany7 {S : Nat × (Nat → Int32)} {d n : Nat} {I : mI} {J : mJ} {R : mR} (hn : 122 ≤ n) (hR : m_fin R) {K N P F : Nat → Int32} {k0 k1 : Nat}  : RUN S (d + 1) YReader_isTooMany [.ref 40, .int (nI 7)] (m_row (m_row (m_row (m_row I 40 F) 57 K) 58 N) 59 P) J R n (some (.int (tmV I (4 * k0 + k1) 7))) (m_row (m_row (m_row (m_row I 40 F) 57 K) 58 N) 59 P) J R n := by
  show AW S _ YReader_isTooMany n n _ 0 [(0, .ref 40), (1, .int (nI 7))] [] (m_row (m_row (m_row (m_row I 40 F) 57 K) 58 N) 59 P) J R n
  refine a_iload_n 1 dReader_isTooMany_0 rfl rfl ?_
  refine a_tab (c := 7) (off := 127) (tgt := 128) dReader_isTooMany_1 rfl (by decide) (by decide) (by decide) (by decide) ?_
  refine a_aload_n 0 dReader_isTooMany_128 rfl rfl ?_
  refine a_geta (r := 50) dReader_isTooMany_129 fl7_21 rfl ly_40 (by omega) (rf_40_1 hR) ?_
  refine a_geti dReader_isTooMany_132 fl7_102 rfl ly_50 (by omega) ?_
  rw [show (m_row (m_row (m_row (m_row I 40 F) 57 K) 58 N) 59 P) 50 0 = I 50 0 from rfl]
  refine a_bipushN (a := 40) dReader_isTooMany_135 (by decide) ?_
  refine a_icmp_lt (tgt := 144) dReader_isTooMany_137 (by decide) (fun c137 => ?_) (fun c137 => ?_)
  · refine a_iconstN (a := 0) dReader_isTooMany_144 (by decide) ?_
    exact a_zret dReader_isTooMany_145 rfl (by rfl) ⟨by unfold tmV; simp only [reduceIte, Nat.reduceEqDiff, or_self, or_true, true_or, or_false, false_or]; first | rfl | (rw [if_pos c137]; rfl), rfl, rfl, rfl⟩
  · refine a_iconstN (a := 1) dReader_isTooMany_140 (by decide) ?_
    refine a_goto (tgt := 145) dReader_isTooMany_141 (by decide) ?_
    exact a_zret dReader_isTooMany_145 rfl (by rfl) ⟨by unfold tmV; simp only [reduceIte, Nat.reduceEqDiff, or_self, or_true, true_or, or_false, false_or]; first | rfl | (rw [if_neg c137]; rfl), rfl, rfl, rfl⟩
theorem c_tooMany8 {S : Nat × (Nat → Int32)} {d n : Nat} {I : mI} {J : mJ} {R : mR} (hn : 122 ≤ n) (hR : m_fin R) {K N P F : Nat → Int32} {k0 k1 : Nat}  : RUN S (d + 1) YReader_isTooMany [.ref 40, .int (nI 8)] (m_row (m_row (m_row (m_row I 40 F) 57 K) 58 N) 59 P) J R n (some (.int (tmV I (4 * k0 + k1) 8))) (m_row (m_row (m_row (m_row I 40 F) 57 K) 58 N) 59 P) J R n := by
  show AW S _ YReader_isTooMany n n _ 0 [(0, .ref 40), (1, .int (nI 8))] [] (m_row (m_row (m_row (m_row I 40 F) 57 K) 58 N) 59 P) J R n
  refine a_iload_n 1 dReader_isTooMany_0 rfl rfl ?_
  refine a_tab (c := 8) (off := 127) (tgt := 128) dReader_isTooMany_1 rfl (by decide) (by decide) (by decide) (by decide) ?_
  refine a_aload_n 0 dReader_isTooMany_128 rfl rfl ?_
  refine a_geta (r := 50) dReader_isTooMany_129 fl7_21 rfl ly_40 (by omega) (rf_40_1 hR) ?_
  refine a_geti dReader_isTooMany_132 fl7_102 rfl ly_50 (by omega) ?_
  rw [show (m_row (m_row (m_row (m_row I 40 F) 57 K) 58 N) 59 P) 50 0 = I 50 0 from rfl]
  refine a_bipushN (a := 40) dReader_isTooMany_135 (by decide) ?_
  refine a_icmp_lt (tgt := 144) dReader_isTooMany_137 (by decide) (fun c137 => ?_) (fun c137 => ?_)
  · refine a_iconstN (a := 0) dReader_isTooMany_144 (by decide) ?_
    exact a_zret dReader_isTooMany_145 rfl (by rfl) ⟨by unfold tmV; simp only [reduceIte, Nat.reduceEqDiff, or_self, or_true, true_or, or_false, false_or]; first | rfl | (rw [if_pos c137]; rfl), rfl, rfl, rfl⟩
  · refine a_iconstN (a := 1) dReader_isTooMany_140 (by decide) ?_
    refine a_goto (tgt := 145) dReader_isTooMany_141 (by decide) ?_
    exact a_zret dReader_isTooMany_145 rfl (by rfl) ⟨by unfold tmV; simp only [reduceIte, Nat.reduceEqDiff, or_self, or_true, true_or, or_false, false_or]; first | rfl | (rw [if_neg c137]; rfl), rfl, rfl, rfl⟩
theorem c_tooMany9 {S : Nat × (Nat → Int32)} {d n : Nat} {I : mI} {J : mJ} {R : mR} (hn : 122 ≤ n) (hR : m_fin R) {K N P F : Nat → Int32} {k0 k1 : Nat}  : RUN S (d + 1) YReader_isTooMany [.ref 40, .int (nI 9)] (m_row (m_row (m_row (m_row I 40 F) 57 K) 58 N) 59 P) J R n (some (.int (tmV I (4 * k0 + k1) 9))) (m_row (m_row (m_row (m_row I 40 F) 57 K) 58 N) 59 P) J R n := by
  show AW S _ YReader_isTooMany n n _ 0 [(0, .ref 40), (1, .int (nI 9))] [] (m_row (m_row (m_row (m_row I 40 F) 57 K) 58 N) 59 P) J R n
  refine a_iload_n 1 dReader_isTooMany_0 rfl rfl ?_
  refine a_tab (c := 9) (off := 109) (tgt := 110) dReader_isTooMany_1 rfl (by decide) (by decide) (by decide) (by decide) ?_
  refine a_aload_n 0 dReader_isTooMany_110 rfl rfl ?_
  refine a_geta (r := 54) dReader_isTooMany_111 fl7_28 rfl ly_40 (by omega) (rf_40_2 hR) ?_
  refine a_geti dReader_isTooMany_114 fl7_105 rfl ly_54 (by omega) ?_
  rw [show (m_row (m_row (m_row (m_row I 40 F) 57 K) 58 N) 59 P) 54 0 = I 54 0 from rfl]
  refine a_bipushN (a := 8) dReader_isTooMany_117 (by decide) ?_
  refine a_icmp_lt (tgt := 126) dReader_isTooMany_119 (by decide) (fun c119 => ?_) (fun c119 => ?_)
  · refine a_iconstN (a := 0) dReader_isTooMany_126 (by decide) ?_
    exact a_zret dReader_isTooMany_127 rfl (by rfl) ⟨by unfold tmV; simp only [reduceIte, Nat.reduceEqDiff, or_self, or_true, true_or, or_false, false_or]; first | rfl | (rw [if_pos c119]; rfl), rfl, rfl, rfl⟩
  · refine a_iconstN (a := 1) dReader_isTooMany_122 (by decide) ?_
    refine a_goto (tgt := 127) dReader_isTooMany_123 (by decide) ?_
    exact a_zret dReader_isTooMany_127 rfl (by rfl) ⟨by unfold tmV; simp only [reduceIte, Nat.reduceEqDiff, or_self, or_true, true_or, or_false, false_or]; first | rfl | (rw [if_neg c119]; rfl), rfl, rfl, rfl⟩
def noF (F : Nat → Int32) (f pl : Int32) : Nat → Int32 := if F 3 = 0 then va_up (va_up F 3 f) 4 pl else F
theorem c_note {S : Nat × (Nat → Int32)} {d n : Nat} {I : mI} {J : mJ} {R : mR} (hn : 122 ≤ n) (hR : m_fin R) {K N P F : Nat → Int32} {f pl : Int32}  : RUN S d YReader_note [.ref 40, .int f, .int pl] (m_row (m_row (m_row (m_row I 40 F) 57 K) 58 N) 59 P) J R n none (m_row (m_row (m_row (m_row I 40 (noF F f pl)) 57 K) 58 N) 59 P) J R n := by
  show AW S _ YReader_note n n _ 0 [(0, .ref 40), (1, .int f), (2, .int pl)] [] (m_row (m_row (m_row (m_row I 40 F) 57 K) 58 N) 59 P) J R n
  refine a_aload_n 0 dReader_note_0 rfl rfl ?_
  refine a_geti dReader_note_1 fl7_60 rfl ly_40 (by omega) ?_
  rw [show (m_row (m_row (m_row (m_row I 40 F) 57 K) 58 N) 59 P) 40 3 = F 3 from rfl]
  refine a_if_ne (tgt := 17) dReader_note_4 (by decide) (fun c4 => ?_) (fun c4 => ?_)
  · exact a_vret dReader_note_17 rfl ⟨rfl, by unfold noF; rw [if_neg c4], rfl, rfl⟩
  · refine a_aload_n 0 dReader_note_7 rfl rfl ?_
    refine a_iload_n 1 dReader_note_8 rfl rfl ?_
    refine a_puti dReader_note_9 fl7_60 rfl ly_40 (by omega) ?_
    rw [show m_up (m_row (m_row (m_row (m_row I 40 F) 57 K) 58 N) 59 P) 40 3 f = (m_row (m_row (m_row (m_row I 40 (va_up F 3 f)) 57 K) 58 N) 59 P) from (by rw [m_up_comm (by decide), m_up_comm (by decide), m_up_comm (by decide), m_up_r])]
    refine a_aload_n 0 dReader_note_12 rfl rfl ?_
    refine a_iload_n 2 dReader_note_13 rfl rfl ?_
    refine a_puti dReader_note_14 fl7_66 rfl ly_40 (by omega) ?_
    rw [show m_up (m_row (m_row (m_row (m_row I 40 (va_up F 3 f)) 57 K) 58 N) 59 P) 40 4 pl = (m_row (m_row (m_row (m_row I 40 (va_up (va_up F 3 f) 4 pl)) 57 K) 58 N) 59 P) from (by rw [m_up_comm (by decide), m_up_comm (by decide), m_up_comm (by decide), m_up_r])]
    exact a_vret dReader_note_17 rfl ⟨rfl, by unfold noF; rw [if_pos c4], rfl, rfl⟩
theorem noF_15 {F : Nat → Int32} {f pl : Int32} : noF F f pl 15 = F 15 := by
  unfold noF
  split
  · rfl
  · rfl
theorem noF_10 {F : Nat → Int32} {f pl : Int32} : noF F f pl 10 = F 10 := by
  unfold noF
  split
  · rfl
  · rfl
/-- the numbers of a line that can't be -/
def nfS (l : Nat) (N P : Nat → Int32) (k : Nat) (F : Nat → Int32) : Nat → Int32 := if l = 4 ∧ k = 1 ∧ N 1 = N 0 then noF F (nI 2) (P k) else if N k < m_least.getD (3 * l + k) 0 then noF F (nI 2) (P k) else if m_most.getD (3 * l + k) 0 < N k then noF F (nI 2) (P k) else F
def nfN (l : Nat) (N P : Nat → Int32) : Nat → Nat → (Nat → Int32) → (Nat → Int32)
  | 0, _, F => F
  | m + 1, k, F => nfN l N P m (k + 1) (nfS l N P k F)
theorem nfS_15 {l : Nat} {N P : Nat → Int32} {k : Nat} {F : Nat → Int32} : nfS l N P k F 15 = F 15 := by
  unfold nfS
  split
  · exact noF_15
  · split
    · exact noF_15
    · split
      · exact noF_15
      · rfl
theorem l_nf {S : Nat × (Nat → Int32)} {d n : Nat} {I : mI} {J : mJ} {R : mR} (hn : 122 ≤ n) (hR : m_fin R) {K N P : Nat → Int32} {l nt : Nat} (hl9 : l ≤ 9) (hnt : nt ≤ 3) {Q : Option Value → mI → mJ → mR → Prop} {F9 : Nat → Int32} (hx : AW S (d + 1) YReader_noteFaults n n Q 115 [(2, .int (nI nt)), (0, .ref 40), (1, .int (nI l))] [] (m_row (m_row (m_row (m_row I 40 F9) 57 K) 58 N) 59 P) J R n) : ∀ m k F, k + m = nt → F 15 = nI nt → nfN l N P m k F = F9 → AW S (d + 1) YReader_noteFaults n n Q 19 [(2, .int (nI k)), (0, .ref 40), (1, .int (nI l))] [] (m_row (m_row (m_row (m_row I 40 F) 57 K) 58 N) 59 P) J R n := by
  intro m
  induction m with
  | zero =>
    intro k F hk9 h15 he
    obtain rfl : k = nt := by omega
    obtain rfl : F = F9 := he
    refine a_iload_n 0 dReader_noteFaults_19 rfl rfl ?_
    refine a_aload_n 1 dReader_noteFaults_20 rfl rfl ?_
    refine a_geti dReader_noteFaults_21 fl7_124 rfl ly_40 (by omega) ?_
    rw [show (m_row (m_row (m_row (m_row I 40 F) 57 K) 58 N) 59 P) 40 15 = (nI k) from h15]
    refine a_icmp_geN (tgt := 115) dReader_noteFaults_24 (by decide) (by omega) (by omega) (fun _ => ?_) (fun c => False.elim (by omega))
    exact hx
  | succ m ih =>
    intro k F hk9 h15 he
    have he2 : nfN l N P m (k + 1) (nfS l N P k F) = F9 := he
    have h152 : nfS l N P k F 15 = nI nt := nfS_15.trans h15
    unfold nfS at he2 h152
    by_cases hm : l = 4 ∧ k = 1 ∧ N 1 = N 0
    · obtain ⟨m1, m2, m3⟩ := id hm
      refine a_iload_n 0 dReader_noteFaults_19 rfl rfl ?_
      refine a_aload_n 1 dReader_noteFaults_20 rfl rfl ?_
      refine a_geti dReader_noteFaults_21 fl7_124 rfl ly_40 (by omega) ?_
      rw [show (m_row (m_row (m_row (m_row I 40 F) 57 K) 58 N) 59 P) 40 15 = (nI nt) from h15]
      refine a_icmp_geN (tgt := 115) dReader_noteFaults_24 (by decide) (by omega) (by omega) (fun c => False.elim (by omega)) (fun _ => ?_)
      refine a_iconstN (a := 3) dReader_noteFaults_27 (by decide) ?_
      refine a_iload_n 2 dReader_noteFaults_28 rfl rfl ?_
      refine a_imulN (a := 3) (b := l) dReader_noteFaults_29 ?_
      refine a_iload_n 0 dReader_noteFaults_30 rfl rfl ?_
      refine a_iaddN (a := (3 * l)) (b := k) dReader_noteFaults_31 ?_
      refine a_istore_n (lv' := [(3, .int (nI ((3 * l) + k))), (2, .int (nI k)), (0, .ref 40), (1, .int (nI l))]) dReader_noteFaults_32 rfl (by decide) rfl ?_
      refine a_iload_n 3 dReader_noteFaults_33 rfl rfl ?_
      refine a_iconstN (a := 4) dReader_noteFaults_34 (by decide) ?_
      refine a_icmp_neN (tgt := 62) dReader_noteFaults_35 (by decide) (by omega) (by omega) (fun c => False.elim (by omega)) (fun _ => ?_)
      refine a_iload_n 1 dReader_noteFaults_38 rfl rfl ?_
      refine a_iconstN (a := 1) dReader_noteFaults_39 (by decide) ?_
      refine a_icmp_neN (tgt := 62) dReader_noteFaults_40 (by decide) (by omega) (by omega) (fun c => False.elim (by omega)) (fun _ => ?_)
      refine a_aload_n 2 dReader_noteFaults_43 rfl rfl ?_
      refine a_geta (r := 58) dReader_noteFaults_44 fl7_36 rfl ly_40 (by omega) (rf_40_13 hR) ?_
      refine a_iconstN (a := 1) dReader_noteFaults_47 (by decide) ?_
      refine a_ialdN (a := 1) dReader_noteFaults_48 ly_58 (by omega) (by omega) (by decide) ?_
      rw [show (m_row (m_row (m_row (m_row I 40 F) 57 K) 58 N) 59 P) 58 1 = N 1 from rfl]
      refine a_aload_n 2 dReader_noteFaults_49 rfl rfl ?_
      refine a_geta (r := 58) dReader_noteFaults_50 fl7_36 rfl ly_40 (by omega) (rf_40_13 hR) ?_
      refine a_iconstN (a := 0) dReader_noteFaults_53 (by decide) ?_
      refine a_ialdN (a := 0) dReader_noteFaults_54 ly_58 (by omega) (by omega) (by decide) ?_
      rw [show (m_row (m_row (m_row (m_row I 40 F) 57 K) 58 N) 59 P) 58 0 = N 0 from rfl]
      refine a_icmp_ne (tgt := 62) dReader_noteFaults_55 (by decide) (fun c => False.elim (c m3)) (fun _ => ?_)
      refine a_iconstN (a := 1) dReader_noteFaults_58 (by decide) ?_
      refine a_goto (tgt := 63) dReader_noteFaults_59 (by decide) ?_
      refine a_istore (lv' := [(4, .int (nI 1)), (3, .int (nI ((3 * l) + k))), (2, .int (nI k)), (0, .ref 40), (1, .int (nI l))]) dReader_noteFaults_63 (by decide) rfl ?_
      refine a_aload_n 3 dReader_noteFaults_65 rfl rfl ?_
      refine a_geta (r := 58) dReader_noteFaults_66 fl7_36 rfl ly_40 (by omega) (rf_40_13 hR) ?_
      refine a_iload_n 2 dReader_noteFaults_69 rfl rfl ?_
      refine a_ialdN (a := k) dReader_noteFaults_70 ly_58 (by omega) (by omega) (by decide) ?_
      rw [show (m_row (m_row (m_row (m_row I 40 F) 57 K) 58 N) 59 P) 58 k = N k from rfl]
      refine a_getsL dReader_noteFaults_71 (m_in (i := 663) (by decide +kernel) rfl) ?_
      refine a_iload_n 1 dReader_noteFaults_74 rfl rfl ?_
      refine a_taldL dReader_noteFaults_75 (nI_in (by omega) (by omega)) ?_
      rw [show (m_least.getD (Int32.toNatClampNeg (nI ((3 * l) + k))) 0) = (m_least.getD (3 * l + k) 0) from (by rw [nI_clamp (show 3 * l + k < 2 ^ 31 by omega)])]
      refine a_icmp_lt (tgt := 98) dReader_noteFaults_76 (by decide) (fun c76 => ?_) (fun c76 => ?_)
      · refine a_aload_n 3 dReader_noteFaults_98 rfl rfl ?_
        refine a_iconstN (a := 2) dReader_noteFaults_99 (by decide) ?_
        refine a_aload_n 3 dReader_noteFaults_100 rfl rfl ?_
        refine a_geta (r := 59) dReader_noteFaults_101 fl7_39 rfl ly_40 (by omega) (rf_40_14 hR) ?_
        refine a_iload_n 2 dReader_noteFaults_104 rfl rfl ?_
        refine a_ialdN (a := k) dReader_noteFaults_105 ly_59 (by omega) (by omega) (by decide) ?_
        rw [show (m_row (m_row (m_row (m_row I 40 F) 57 K) 58 N) 59 P) 59 k = P k from rfl]
        refine a_callV (Q' := m_res none (m_row (m_row (m_row (m_row I 40 (noF F (nI 2) (P k))) 57 K) 58 N) 59 P) J R) (as := [.int (nI 2), .int (P k)]) (st := []) dReader_noteFaults_106 ml7_73 rfl (Nat.le_of_ble_eq_true rfl) ly_40 rfl rfl (by decide) (by omega) (Nat.le_of_ble_eq_true rfl) rfl (Nat.le_refl _) (Nat.le_refl _) (c_note (I := I) (F := F) (K := K) (N := N) (P := P) hn hR) (m_go ?_)
        show AW _ _ _ _ _ _ _ _ [] _ _ _ _
        refine a_iincN (lv' := [(2, .int (nI (k + 1))), (4, .int (nI 1)), (3, .int (nI ((3 * l) + k))), (0, .ref 40), (1, .int (nI l))]) (j := 2) dReader_noteFaults_109 rfl (by decide) rfl ?_
        refine a_goto (tgt := 19) dReader_noteFaults_112 (by decide) ?_
        refine a_locs (lv' := [(2, .int (nI (k + 1))), (0, .ref 40), (1, .int (nI l))]) [0, 3, 4] rfl ?_
        rw [if_pos hm] at he2 h152
        exact ih (k + 1) (noF F (nI 2) (P k)) (by omega) h152 he2
      · refine a_aload_n 3 dReader_noteFaults_79 rfl rfl ?_
        refine a_geta (r := 58) dReader_noteFaults_80 fl7_36 rfl ly_40 (by omega) (rf_40_13 hR) ?_
        refine a_iload_n 2 dReader_noteFaults_83 rfl rfl ?_
        refine a_ialdN (a := k) dReader_noteFaults_84 ly_58 (by omega) (by omega) (by decide) ?_
        rw [show (m_row (m_row (m_row (m_row I 40 F) 57 K) 58 N) 59 P) 58 k = N k from rfl]
        refine a_getsM dReader_noteFaults_85 (m_in (i := 665) (by decide +kernel) rfl) ?_
        refine a_iload_n 1 dReader_noteFaults_88 rfl rfl ?_
        refine a_taldM dReader_noteFaults_89 (nI_in (by omega) (by omega)) ?_
        rw [show (m_most.getD (Int32.toNatClampNeg (nI ((3 * l) + k))) 0) = (m_most.getD (3 * l + k) 0) from (by rw [nI_clamp (show 3 * l + k < 2 ^ 31 by omega)])]
        refine a_icmp_gt (tgt := 98) dReader_noteFaults_90 (by decide) (fun c90 => ?_) (fun c90 => ?_)
        · refine a_aload_n 3 dReader_noteFaults_98 rfl rfl ?_
          refine a_iconstN (a := 2) dReader_noteFaults_99 (by decide) ?_
          refine a_aload_n 3 dReader_noteFaults_100 rfl rfl ?_
          refine a_geta (r := 59) dReader_noteFaults_101 fl7_39 rfl ly_40 (by omega) (rf_40_14 hR) ?_
          refine a_iload_n 2 dReader_noteFaults_104 rfl rfl ?_
          refine a_ialdN (a := k) dReader_noteFaults_105 ly_59 (by omega) (by omega) (by decide) ?_
          rw [show (m_row (m_row (m_row (m_row I 40 F) 57 K) 58 N) 59 P) 59 k = P k from rfl]
          refine a_callV (Q' := m_res none (m_row (m_row (m_row (m_row I 40 (noF F (nI 2) (P k))) 57 K) 58 N) 59 P) J R) (as := [.int (nI 2), .int (P k)]) (st := []) dReader_noteFaults_106 ml7_73 rfl (Nat.le_of_ble_eq_true rfl) ly_40 rfl rfl (by decide) (by omega) (Nat.le_of_ble_eq_true rfl) rfl (Nat.le_refl _) (Nat.le_refl _) (c_note (I := I) (F := F) (K := K) (N := N) (P := P) hn hR) (m_go ?_)
          show AW _ _ _ _ _ _ _ _ [] _ _ _ _
          refine a_iincN (lv' := [(2, .int (nI (k + 1))), (4, .int (nI 1)), (3, .int (nI ((3 * l) + k))), (0, .ref 40), (1, .int (nI l))]) (j := 2) dReader_noteFaults_109 rfl (by decide) rfl ?_
          refine a_goto (tgt := 19) dReader_noteFaults_112 (by decide) ?_
          refine a_locs (lv' := [(2, .int (nI (k + 1))), (0, .ref 40), (1, .int (nI l))]) [0, 3, 4] rfl ?_
          rw [if_pos hm] at he2 h152
          exact ih (k + 1) (noF F (nI 2) (P k)) (by omega) h152 he2
        · refine a_iload 0 dReader_noteFaults_93 rfl ?_
          refine a_if_eq (tgt := 109) dReader_noteFaults_95 (by decide) (fun c => False.elim (absurd c (by decide))) (fun _ => ?_)
          refine a_aload_n 3 dReader_noteFaults_98 rfl rfl ?_
          refine a_iconstN (a := 2) dReader_noteFaults_99 (by decide) ?_
          refine a_aload_n 3 dReader_noteFaults_100 rfl rfl ?_
          refine a_geta (r := 59) dReader_noteFaults_101 fl7_39 rfl ly_40 (by omega) (rf_40_14 hR) ?_
          refine a_iload_n 2 dReader_noteFaults_104 rfl rfl ?_
          refine a_ialdN (a := k) dReader_noteFaults_105 ly_59 (by omega) (by omega) (by decide) ?_
          rw [show (m_row (m_row (m_row (m_row I 40 F) 57 K) 58 N) 59 P) 59 k = P k from rfl]
          refine a_callV (Q' := m_res none (m_row (m_row (m_row (m_row I 40 (noF F (nI 2) (P k))) 57 K) 58 N) 59 P) J R) (as := [.int (nI 2), .int (P k)]) (st := []) dReader_noteFaults_106 ml7_73 rfl (Nat.le_of_ble_eq_true rfl) ly_40 rfl rfl (by decide) (by omega) (Nat.le_of_ble_eq_true rfl) rfl (Nat.le_refl _) (Nat.le_refl _) (c_note (I := I) (F := F) (K := K) (N := N) (P := P) hn hR) (m_go ?_)
          show AW _ _ _ _ _ _ _ _ [] _ _ _ _
          refine a_iincN (lv' := [(2, .int (nI (k + 1))), (4, .int (nI 1)), (3, .int (nI ((3 * l) + k))), (0, .ref 40), (1, .int (nI l))]) (j := 2) dReader_noteFaults_109 rfl (by decide) rfl ?_
          refine a_goto (tgt := 19) dReader_noteFaults_112 (by decide) ?_
          refine a_locs (lv' := [(2, .int (nI (k + 1))), (0, .ref 40), (1, .int (nI l))]) [0, 3, 4] rfl ?_
          rw [if_pos hm] at he2 h152
          exact ih (k + 1) (noF F (nI 2) (P k)) (by omega) h152 he2
    · refine a_iload_n 0 dReader_noteFaults_19 rfl rfl ?_
      refine a_aload_n 1 dReader_noteFaults_20 rfl rfl ?_
      refine a_geti dReader_noteFaults_21 fl7_124 rfl ly_40 (by omega) ?_
      rw [show (m_row (m_row (m_row (m_row I 40 F) 57 K) 58 N) 59 P) 40 15 = (nI nt) from h15]
      refine a_icmp_geN (tgt := 115) dReader_noteFaults_24 (by decide) (by omega) (by omega) (fun c => False.elim (by omega)) (fun _ => ?_)
      refine a_iconstN (a := 3) dReader_noteFaults_27 (by decide) ?_
      refine a_iload_n 2 dReader_noteFaults_28 rfl rfl ?_
      refine a_imulN (a := 3) (b := l) dReader_noteFaults_29 ?_
      refine a_iload_n 0 dReader_noteFaults_30 rfl rfl ?_
      refine a_iaddN (a := (3 * l)) (b := k) dReader_noteFaults_31 ?_
      refine a_istore_n (lv' := [(3, .int (nI ((3 * l) + k))), (2, .int (nI k)), (0, .ref 40), (1, .int (nI l))]) dReader_noteFaults_32 rfl (by decide) rfl ?_
      refine a_iload_n 3 dReader_noteFaults_33 rfl rfl ?_
      refine a_iconstN (a := 4) dReader_noteFaults_34 (by decide) ?_
      refine a_icmp_neN (tgt := 62) dReader_noteFaults_35 (by decide) (by omega) (by omega) (fun c35 => ?_) (fun c35 => ?_)
      · refine a_iconstN (a := 0) dReader_noteFaults_62 (by decide) ?_
        refine a_istore (lv' := [(4, .int (nI 0)), (3, .int (nI ((3 * l) + k))), (2, .int (nI k)), (0, .ref 40), (1, .int (nI l))]) dReader_noteFaults_63 (by decide) rfl ?_
        refine a_aload_n 3 dReader_noteFaults_65 rfl rfl ?_
        refine a_geta (r := 58) dReader_noteFaults_66 fl7_36 rfl ly_40 (by omega) (rf_40_13 hR) ?_
        refine a_iload_n 2 dReader_noteFaults_69 rfl rfl ?_
        refine a_ialdN (a := k) dReader_noteFaults_70 ly_58 (by omega) (by omega) (by decide) ?_
        rw [show (m_row (m_row (m_row (m_row I 40 F) 57 K) 58 N) 59 P) 58 k = N k from rfl]
        refine a_getsL dReader_noteFaults_71 (m_in (i := 663) (by decide +kernel) rfl) ?_
        refine a_iload_n 1 dReader_noteFaults_74 rfl rfl ?_
        refine a_taldL dReader_noteFaults_75 (nI_in (by omega) (by omega)) ?_
        rw [show (m_least.getD (Int32.toNatClampNeg (nI ((3 * l) + k))) 0) = (m_least.getD (3 * l + k) 0) from (by rw [nI_clamp (show 3 * l + k < 2 ^ 31 by omega)])]
        refine a_icmp_lt (tgt := 98) dReader_noteFaults_76 (by decide) (fun c76 => ?_) (fun c76 => ?_)
        · refine a_aload_n 3 dReader_noteFaults_98 rfl rfl ?_
          refine a_iconstN (a := 2) dReader_noteFaults_99 (by decide) ?_
          refine a_aload_n 3 dReader_noteFaults_100 rfl rfl ?_
          refine a_geta (r := 59) dReader_noteFaults_101 fl7_39 rfl ly_40 (by omega) (rf_40_14 hR) ?_
          refine a_iload_n 2 dReader_noteFaults_104 rfl rfl ?_
          refine a_ialdN (a := k) dReader_noteFaults_105 ly_59 (by omega) (by omega) (by decide) ?_
          rw [show (m_row (m_row (m_row (m_row I 40 F) 57 K) 58 N) 59 P) 59 k = P k from rfl]
          refine a_callV (Q' := m_res none (m_row (m_row (m_row (m_row I 40 (noF F (nI 2) (P k))) 57 K) 58 N) 59 P) J R) (as := [.int (nI 2), .int (P k)]) (st := []) dReader_noteFaults_106 ml7_73 rfl (Nat.le_of_ble_eq_true rfl) ly_40 rfl rfl (by decide) (by omega) (Nat.le_of_ble_eq_true rfl) rfl (Nat.le_refl _) (Nat.le_refl _) (c_note (I := I) (F := F) (K := K) (N := N) (P := P) hn hR) (m_go ?_)
          show AW _ _ _ _ _ _ _ _ [] _ _ _ _
          refine a_iincN (lv' := [(2, .int (nI (k + 1))), (4, .int (nI 0)), (3, .int (nI ((3 * l) + k))), (0, .ref 40), (1, .int (nI l))]) (j := 2) dReader_noteFaults_109 rfl (by decide) rfl ?_
          refine a_goto (tgt := 19) dReader_noteFaults_112 (by decide) ?_
          refine a_locs (lv' := [(2, .int (nI (k + 1))), (0, .ref 40), (1, .int (nI l))]) [0, 3, 4] rfl ?_
          rw [if_neg hm, if_pos c76] at he2 h152
          exact ih (k + 1) (noF F (nI 2) (P k)) (by omega) h152 he2
        · refine a_aload_n 3 dReader_noteFaults_79 rfl rfl ?_
          refine a_geta (r := 58) dReader_noteFaults_80 fl7_36 rfl ly_40 (by omega) (rf_40_13 hR) ?_
          refine a_iload_n 2 dReader_noteFaults_83 rfl rfl ?_
          refine a_ialdN (a := k) dReader_noteFaults_84 ly_58 (by omega) (by omega) (by decide) ?_
          rw [show (m_row (m_row (m_row (m_row I 40 F) 57 K) 58 N) 59 P) 58 k = N k from rfl]
          refine a_getsM dReader_noteFaults_85 (m_in (i := 665) (by decide +kernel) rfl) ?_
          refine a_iload_n 1 dReader_noteFaults_88 rfl rfl ?_
          refine a_taldM dReader_noteFaults_89 (nI_in (by omega) (by omega)) ?_
          rw [show (m_most.getD (Int32.toNatClampNeg (nI ((3 * l) + k))) 0) = (m_most.getD (3 * l + k) 0) from (by rw [nI_clamp (show 3 * l + k < 2 ^ 31 by omega)])]
          refine a_icmp_gt (tgt := 98) dReader_noteFaults_90 (by decide) (fun c90 => ?_) (fun c90 => ?_)
          · refine a_aload_n 3 dReader_noteFaults_98 rfl rfl ?_
            refine a_iconstN (a := 2) dReader_noteFaults_99 (by decide) ?_
            refine a_aload_n 3 dReader_noteFaults_100 rfl rfl ?_
            refine a_geta (r := 59) dReader_noteFaults_101 fl7_39 rfl ly_40 (by omega) (rf_40_14 hR) ?_
            refine a_iload_n 2 dReader_noteFaults_104 rfl rfl ?_
            refine a_ialdN (a := k) dReader_noteFaults_105 ly_59 (by omega) (by omega) (by decide) ?_
            rw [show (m_row (m_row (m_row (m_row I 40 F) 57 K) 58 N) 59 P) 59 k = P k from rfl]
            refine a_callV (Q' := m_res none (m_row (m_row (m_row (m_row I 40 (noF F (nI 2) (P k))) 57 K) 58 N) 59 P) J R) (as := [.int (nI 2), .int (P k)]) (st := []) dReader_noteFaults_106 ml7_73 rfl (Nat.le_of_ble_eq_true rfl) ly_40 rfl rfl (by decide) (by omega) (Nat.le_of_ble_eq_true rfl) rfl (Nat.le_refl _) (Nat.le_refl _) (c_note (I := I) (F := F) (K := K) (N := N) (P := P) hn hR) (m_go ?_)
            show AW _ _ _ _ _ _ _ _ [] _ _ _ _
            refine a_iincN (lv' := [(2, .int (nI (k + 1))), (4, .int (nI 0)), (3, .int (nI ((3 * l) + k))), (0, .ref 40), (1, .int (nI l))]) (j := 2) dReader_noteFaults_109 rfl (by decide) rfl ?_
            refine a_goto (tgt := 19) dReader_noteFaults_112 (by decide) ?_
            refine a_locs (lv' := [(2, .int (nI (k + 1))), (0, .ref 40), (1, .int (nI l))]) [0, 3, 4] rfl ?_
            rw [if_neg hm, if_neg c76, if_pos c90] at he2 h152
            exact ih (k + 1) (noF F (nI 2) (P k)) (by omega) h152 he2
          · refine a_iload 0 dReader_noteFaults_93 rfl ?_
            refine a_if_eq (tgt := 109) dReader_noteFaults_95 (by decide) (fun _ => ?_) (fun c => False.elim (c rfl))
            refine a_iincN (lv' := [(2, .int (nI (k + 1))), (4, .int (nI 0)), (3, .int (nI ((3 * l) + k))), (0, .ref 40), (1, .int (nI l))]) (j := 2) dReader_noteFaults_109 rfl (by decide) rfl ?_
            refine a_goto (tgt := 19) dReader_noteFaults_112 (by decide) ?_
            refine a_locs (lv' := [(2, .int (nI (k + 1))), (0, .ref 40), (1, .int (nI l))]) [0, 3, 4] rfl ?_
            rw [if_neg hm, if_neg c76, if_neg c90] at he2 h152
            exact ih (k + 1) F (by omega) h152 he2
      · refine a_iload_n 1 dReader_noteFaults_38 rfl rfl ?_
        refine a_iconstN (a := 1) dReader_noteFaults_39 (by decide) ?_
        refine a_icmp_neN (tgt := 62) dReader_noteFaults_40 (by decide) (by omega) (by omega) (fun c40 => ?_) (fun c40 => ?_)
        · refine a_iconstN (a := 0) dReader_noteFaults_62 (by decide) ?_
          refine a_istore (lv' := [(4, .int (nI 0)), (3, .int (nI ((3 * l) + k))), (2, .int (nI k)), (0, .ref 40), (1, .int (nI l))]) dReader_noteFaults_63 (by decide) rfl ?_
          refine a_aload_n 3 dReader_noteFaults_65 rfl rfl ?_
          refine a_geta (r := 58) dReader_noteFaults_66 fl7_36 rfl ly_40 (by omega) (rf_40_13 hR) ?_
          refine a_iload_n 2 dReader_noteFaults_69 rfl rfl ?_
          refine a_ialdN (a := k) dReader_noteFaults_70 ly_58 (by omega) (by omega) (by decide) ?_
          rw [show (m_row (m_row (m_row (m_row I 40 F) 57 K) 58 N) 59 P) 58 k = N k from rfl]
          refine a_getsL dReader_noteFaults_71 (m_in (i := 663) (by decide +kernel) rfl) ?_
          refine a_iload_n 1 dReader_noteFaults_74 rfl rfl ?_
          refine a_taldL dReader_noteFaults_75 (nI_in (by omega) (by omega)) ?_
          rw [show (m_least.getD (Int32.toNatClampNeg (nI ((3 * l) + k))) 0) = (m_least.getD (3 * l + k) 0) from (by rw [nI_clamp (show 3 * l + k < 2 ^ 31 by omega)])]
          refine a_icmp_lt (tgt := 98) dReader_noteFaults_76 (by decide) (fun c76 => ?_) (fun c76 => ?_)
          · refine a_aload_n 3 dReader_noteFaults_98 rfl rfl ?_
            refine a_iconstN (a := 2) dReader_noteFaults_99 (by decide) ?_
            refine a_aload_n 3 dReader_noteFaults_100 rfl rfl ?_
            refine a_geta (r := 59) dReader_noteFaults_101 fl7_39 rfl ly_40 (by omega) (rf_40_14 hR) ?_
            refine a_iload_n 2 dReader_noteFaults_104 rfl rfl ?_
            refine a_ialdN (a := k) dReader_noteFaults_105 ly_59 (by omega) (by omega) (by decide) ?_
            rw [show (m_row (m_row (m_row (m_row I 40 F) 57 K) 58 N) 59 P) 59 k = P k from rfl]
            refine a_callV (Q' := m_res none (m_row (m_row (m_row (m_row I 40 (noF F (nI 2) (P k))) 57 K) 58 N) 59 P) J R) (as := [.int (nI 2), .int (P k)]) (st := []) dReader_noteFaults_106 ml7_73 rfl (Nat.le_of_ble_eq_true rfl) ly_40 rfl rfl (by decide) (by omega) (Nat.le_of_ble_eq_true rfl) rfl (Nat.le_refl _) (Nat.le_refl _) (c_note (I := I) (F := F) (K := K) (N := N) (P := P) hn hR) (m_go ?_)
            show AW _ _ _ _ _ _ _ _ [] _ _ _ _
            refine a_iincN (lv' := [(2, .int (nI (k + 1))), (4, .int (nI 0)), (3, .int (nI ((3 * l) + k))), (0, .ref 40), (1, .int (nI l))]) (j := 2) dReader_noteFaults_109 rfl (by decide) rfl ?_
            refine a_goto (tgt := 19) dReader_noteFaults_112 (by decide) ?_
            refine a_locs (lv' := [(2, .int (nI (k + 1))), (0, .ref 40), (1, .int (nI l))]) [0, 3, 4] rfl ?_
            rw [if_neg hm, if_pos c76] at he2 h152
            exact ih (k + 1) (noF F (nI 2) (P k)) (by omega) h152 he2
          · refine a_aload_n 3 dReader_noteFaults_79 rfl rfl ?_
            refine a_geta (r := 58) dReader_noteFaults_80 fl7_36 rfl ly_40 (by omega) (rf_40_13 hR) ?_
            refine a_iload_n 2 dReader_noteFaults_83 rfl rfl ?_
            refine a_ialdN (a := k) dReader_noteFaults_84 ly_58 (by omega) (by omega) (by decide) ?_
            rw [show (m_row (m_row (m_row (m_row I 40 F) 57 K) 58 N) 59 P) 58 k = N k from rfl]
            refine a_getsM dReader_noteFaults_85 (m_in (i := 665) (by decide +kernel) rfl) ?_
            refine a_iload_n 1 dReader_noteFaults_88 rfl rfl ?_
            refine a_taldM dReader_noteFaults_89 (nI_in (by omega) (by omega)) ?_
            rw [show (m_most.getD (Int32.toNatClampNeg (nI ((3 * l) + k))) 0) = (m_most.getD (3 * l + k) 0) from (by rw [nI_clamp (show 3 * l + k < 2 ^ 31 by omega)])]
            refine a_icmp_gt (tgt := 98) dReader_noteFaults_90 (by decide) (fun c90 => ?_) (fun c90 => ?_)
            · refine a_aload_n 3 dReader_noteFaults_98 rfl rfl ?_
              refine a_iconstN (a := 2) dReader_noteFaults_99 (by decide) ?_
              refine a_aload_n 3 dReader_noteFaults_100 rfl rfl ?_
              refine a_geta (r := 59) dReader_noteFaults_101 fl7_39 rfl ly_40 (by omega) (rf_40_14 hR) ?_
              refine a_iload_n 2 dReader_noteFaults_104 rfl rfl ?_
              refine a_ialdN (a := k) dReader_noteFaults_105 ly_59 (by omega) (by omega) (by decide) ?_
              rw [show (m_row (m_row (m_row (m_row I 40 F) 57 K) 58 N) 59 P) 59 k = P k from rfl]
              refine a_callV (Q' := m_res none (m_row (m_row (m_row (m_row I 40 (noF F (nI 2) (P k))) 57 K) 58 N) 59 P) J R) (as := [.int (nI 2), .int (P k)]) (st := []) dReader_noteFaults_106 ml7_73 rfl (Nat.le_of_ble_eq_true rfl) ly_40 rfl rfl (by decide) (by omega) (Nat.le_of_ble_eq_true rfl) rfl (Nat.le_refl _) (Nat.le_refl _) (c_note (I := I) (F := F) (K := K) (N := N) (P := P) hn hR) (m_go ?_)
              show AW _ _ _ _ _ _ _ _ [] _ _ _ _
              refine a_iincN (lv' := [(2, .int (nI (k + 1))), (4, .int (nI 0)), (3, .int (nI ((3 * l) + k))), (0, .ref 40), (1, .int (nI l))]) (j := 2) dReader_noteFaults_109 rfl (by decide) rfl ?_
              refine a_goto (tgt := 19) dReader_noteFaults_112 (by decide) ?_
              refine a_locs (lv' := [(2, .int (nI (k + 1))), (0, .ref 40), (1, .int (nI l))]) [0, 3, 4] rfl ?_
              rw [if_neg hm, if_neg c76, if_pos c90] at he2 h152
              exact ih (k + 1) (noF F (nI 2) (P k)) (by omega) h152 he2
            · refine a_iload 0 dReader_noteFaults_93 rfl ?_
              refine a_if_eq (tgt := 109) dReader_noteFaults_95 (by decide) (fun _ => ?_) (fun c => False.elim (c rfl))
              refine a_iincN (lv' := [(2, .int (nI (k + 1))), (4, .int (nI 0)), (3, .int (nI ((3 * l) + k))), (0, .ref 40), (1, .int (nI l))]) (j := 2) dReader_noteFaults_109 rfl (by decide) rfl ?_
              refine a_goto (tgt := 19) dReader_noteFaults_112 (by decide) ?_
              refine a_locs (lv' := [(2, .int (nI (k + 1))), (0, .ref 40), (1, .int (nI l))]) [0, 3, 4] rfl ?_
              rw [if_neg hm, if_neg c76, if_neg c90] at he2 h152
              exact ih (k + 1) F (by omega) h152 he2
        · refine a_aload_n 2 dReader_noteFaults_43 rfl rfl ?_
          refine a_geta (r := 58) dReader_noteFaults_44 fl7_36 rfl ly_40 (by omega) (rf_40_13 hR) ?_
          refine a_iconstN (a := 1) dReader_noteFaults_47 (by decide) ?_
          refine a_ialdN (a := 1) dReader_noteFaults_48 ly_58 (by omega) (by omega) (by decide) ?_
          rw [show (m_row (m_row (m_row (m_row I 40 F) 57 K) 58 N) 59 P) 58 1 = N 1 from rfl]
          refine a_aload_n 2 dReader_noteFaults_49 rfl rfl ?_
          refine a_geta (r := 58) dReader_noteFaults_50 fl7_36 rfl ly_40 (by omega) (rf_40_13 hR) ?_
          refine a_iconstN (a := 0) dReader_noteFaults_53 (by decide) ?_
          refine a_ialdN (a := 0) dReader_noteFaults_54 ly_58 (by omega) (by omega) (by decide) ?_
          rw [show (m_row (m_row (m_row (m_row I 40 F) 57 K) 58 N) 59 P) 58 0 = N 0 from rfl]
          refine a_icmp_ne (tgt := 62) dReader_noteFaults_55 (by decide) (fun c55 => ?_) (fun c55 => ?_)
          · refine a_iconstN (a := 0) dReader_noteFaults_62 (by decide) ?_
            refine a_istore (lv' := [(4, .int (nI 0)), (3, .int (nI ((3 * l) + k))), (2, .int (nI k)), (0, .ref 40), (1, .int (nI l))]) dReader_noteFaults_63 (by decide) rfl ?_
            refine a_aload_n 3 dReader_noteFaults_65 rfl rfl ?_
            refine a_geta (r := 58) dReader_noteFaults_66 fl7_36 rfl ly_40 (by omega) (rf_40_13 hR) ?_
            refine a_iload_n 2 dReader_noteFaults_69 rfl rfl ?_
            refine a_ialdN (a := k) dReader_noteFaults_70 ly_58 (by omega) (by omega) (by decide) ?_
            rw [show (m_row (m_row (m_row (m_row I 40 F) 57 K) 58 N) 59 P) 58 k = N k from rfl]
            refine a_getsL dReader_noteFaults_71 (m_in (i := 663) (by decide +kernel) rfl) ?_
            refine a_iload_n 1 dReader_noteFaults_74 rfl rfl ?_
            refine a_taldL dReader_noteFaults_75 (nI_in (by omega) (by omega)) ?_
            rw [show (m_least.getD (Int32.toNatClampNeg (nI ((3 * l) + k))) 0) = (m_least.getD (3 * l + k) 0) from (by rw [nI_clamp (show 3 * l + k < 2 ^ 31 by omega)])]
            refine a_icmp_lt (tgt := 98) dReader_noteFaults_76 (by decide) (fun c76 => ?_) (fun c76 => ?_)
            · refine a_aload_n 3 dReader_noteFaults_98 rfl rfl ?_
              refine a_iconstN (a := 2) dReader_noteFaults_99 (by decide) ?_
              refine a_aload_n 3 dReader_noteFaults_100 rfl rfl ?_
              refine a_geta (r := 59) dReader_noteFaults_101 fl7_39 rfl ly_40 (by omega) (rf_40_14 hR) ?_
              refine a_iload_n 2 dReader_noteFaults_104 rfl rfl ?_
              refine a_ialdN (a := k) dReader_noteFaults_105 ly_59 (by omega) (by omega) (by decide) ?_
              rw [show (m_row (m_row (m_row (m_row I 40 F) 57 K) 58 N) 59 P) 59 k = P k from rfl]
              refine a_callV (Q' := m_res none (m_row (m_row (m_row (m_row I 40 (noF F (nI 2) (P k))) 57 K) 58 N) 59 P) J R) (as := [.int (nI 2), .int (P k)]) (st := []) dReader_noteFaults_106 ml7_73 rfl (Nat.le_of_ble_eq_true rfl) ly_40 rfl rfl (by decide) (by omega) (Nat.le_of_ble_eq_true rfl) rfl (Nat.le_refl _) (Nat.le_refl _) (c_note (I := I) (F := F) (K := K) (N := N) (P := P) hn hR) (m_go ?_)
              show AW _ _ _ _ _ _ _ _ [] _ _ _ _
              refine a_iincN (lv' := [(2, .int (nI (k + 1))), (4, .int (nI 0)), (3, .int (nI ((3 * l) + k))), (0, .ref 40), (1, .int (nI l))]) (j := 2) dReader_noteFaults_109 rfl (by decide) rfl ?_
              refine a_goto (tgt := 19) dReader_noteFaults_112 (by decide) ?_
              refine a_locs (lv' := [(2, .int (nI (k + 1))), (0, .ref 40), (1, .int (nI l))]) [0, 3, 4] rfl ?_
              rw [if_neg hm, if_pos c76] at he2 h152
              exact ih (k + 1) (noF F (nI 2) (P k)) (by omega) h152 he2
            · refine a_aload_n 3 dReader_noteFaults_79 rfl rfl ?_
              refine a_geta (r := 58) dReader_noteFaults_80 fl7_36 rfl ly_40 (by omega) (rf_40_13 hR) ?_
              refine a_iload_n 2 dReader_noteFaults_83 rfl rfl ?_
              refine a_ialdN (a := k) dReader_noteFaults_84 ly_58 (by omega) (by omega) (by decide) ?_
              rw [show (m_row (m_row (m_row (m_row I 40 F) 57 K) 58 N) 59 P) 58 k = N k from rfl]
              refine a_getsM dReader_noteFaults_85 (m_in (i := 665) (by decide +kernel) rfl) ?_
              refine a_iload_n 1 dReader_noteFaults_88 rfl rfl ?_
              refine a_taldM dReader_noteFaults_89 (nI_in (by omega) (by omega)) ?_
              rw [show (m_most.getD (Int32.toNatClampNeg (nI ((3 * l) + k))) 0) = (m_most.getD (3 * l + k) 0) from (by rw [nI_clamp (show 3 * l + k < 2 ^ 31 by omega)])]
              refine a_icmp_gt (tgt := 98) dReader_noteFaults_90 (by decide) (fun c90 => ?_) (fun c90 => ?_)
              · refine a_aload_n 3 dReader_noteFaults_98 rfl rfl ?_
                refine a_iconstN (a := 2) dReader_noteFaults_99 (by decide) ?_
                refine a_aload_n 3 dReader_noteFaults_100 rfl rfl ?_
                refine a_geta (r := 59) dReader_noteFaults_101 fl7_39 rfl ly_40 (by omega) (rf_40_14 hR) ?_
                refine a_iload_n 2 dReader_noteFaults_104 rfl rfl ?_
                refine a_ialdN (a := k) dReader_noteFaults_105 ly_59 (by omega) (by omega) (by decide) ?_
                rw [show (m_row (m_row (m_row (m_row I 40 F) 57 K) 58 N) 59 P) 59 k = P k from rfl]
                refine a_callV (Q' := m_res none (m_row (m_row (m_row (m_row I 40 (noF F (nI 2) (P k))) 57 K) 58 N) 59 P) J R) (as := [.int (nI 2), .int (P k)]) (st := []) dReader_noteFaults_106 ml7_73 rfl (Nat.le_of_ble_eq_true rfl) ly_40 rfl rfl (by decide) (by omega) (Nat.le_of_ble_eq_true rfl) rfl (Nat.le_refl _) (Nat.le_refl _) (c_note (I := I) (F := F) (K := K) (N := N) (P := P) hn hR) (m_go ?_)
                show AW _ _ _ _ _ _ _ _ [] _ _ _ _
                refine a_iincN (lv' := [(2, .int (nI (k + 1))), (4, .int (nI 0)), (3, .int (nI ((3 * l) + k))), (0, .ref 40), (1, .int (nI l))]) (j := 2) dReader_noteFaults_109 rfl (by decide) rfl ?_
                refine a_goto (tgt := 19) dReader_noteFaults_112 (by decide) ?_
                refine a_locs (lv' := [(2, .int (nI (k + 1))), (0, .ref 40), (1, .int (nI l))]) [0, 3, 4] rfl ?_
                rw [if_neg hm, if_neg c76, if_pos c90] at he2 h152
                exact ih (k + 1) (noF F (nI 2) (P k)) (by omega) h152 he2
              · refine a_iload 0 dReader_noteFaults_93 rfl ?_
                refine a_if_eq (tgt := 109) dReader_noteFaults_95 (by decide) (fun _ => ?_) (fun c => False.elim (c rfl))
                refine a_iincN (lv' := [(2, .int (nI (k + 1))), (4, .int (nI 0)), (3, .int (nI ((3 * l) + k))), (0, .ref 40), (1, .int (nI l))]) (j := 2) dReader_noteFaults_109 rfl (by decide) rfl ?_
                refine a_goto (tgt := 19) dReader_noteFaults_112 (by decide) ?_
                refine a_locs (lv' := [(2, .int (nI (k + 1))), (0, .ref 40), (1, .int (nI l))]) [0, 3, 4] rfl ?_
                rw [if_neg hm, if_neg c76, if_neg c90] at he2 h152
                exact ih (k + 1) F (by omega) h152 he2
          · exact absurd ⟨by omega, by omega, by first | exact c55 | exact Classical.byContradiction (fun q => c55 q)⟩ hm
/-- the faults of a line -/
def nfF (I : mI) (law l nt : Nat) (N P : Nat → Int32) (F : Nat → Int32) : Nat → Int32 := nfN l N P nt 0 (if tmV I law l = 0 then F else noF F (nI 3) (F 10))
theorem c_noteFaults0 {S : Nat × (Nat → Int32)} {d n : Nat} {I : mI} {J : mJ} {R : mR} (hn : 122 ≤ n) (hR : m_fin R) {K N P F : Nat → Int32} {k0 k1 : Nat} {nt : Nat} (hnt : nt ≤ 3) (h15 : F 15 = nI nt)  : RUN S (d + 2) YReader_noteFaults [.ref 40, .int (nI 0)] (m_row (m_row (m_row (m_row I 40 F) 57 K) 58 N) 59 P) J R n none (m_row (m_row (m_row (m_row I 40 (nfF I (4 * k0 + k1) 0 nt N P F)) 57 K) 58 N) 59 P) J R n := by
  show AW S _ YReader_noteFaults n n _ 0 [(0, .ref 40), (1, .int (nI 0))] [] (m_row (m_row (m_row (m_row I 40 F) 57 K) 58 N) 59 P) J R n
  refine a_aload_n 0 dReader_noteFaults_0 rfl rfl ?_
  refine a_iload_n 1 dReader_noteFaults_1 rfl rfl ?_
  refine a_callV (Q' := m_res (some (.int (tmV I (4 * k0 + k1) 0))) (m_row (m_row (m_row (m_row I 40 F) 57 K) 58 N) 59 P) J R) (as := [.int (nI 0)]) (st := []) dReader_noteFaults_2 ml7_206 rfl (Nat.le_of_ble_eq_true rfl) ly_40 rfl rfl (by decide) (by omega) (Nat.le_of_ble_eq_true rfl) rfl (Nat.le_refl _) (Nat.le_refl _) (c_tooMany0 hn hR) (m_go ?_)
  show AW _ _ _ _ _ _ _ _ [.int (tmV I (4 * k0 + k1) 0)] _ _ _ _
  refine a_if_eq (tgt := 17) dReader_noteFaults_5 (by decide) (fun c5 => ?_) (fun c5 => ?_)
  · refine a_iconstN (a := 0) dReader_noteFaults_17 (by decide) ?_
    refine a_istore_n (lv' := [(2, .int (nI 0)), (0, .ref 40), (1, .int (nI 0))]) dReader_noteFaults_18 rfl (by decide) rfl ?_
    refine a_locs (lv' := [(2, .int (nI 0)), (0, .ref 40), (1, .int (nI 0))]) [0, 1, 2] rfl ?_
    refine l_nf hn hR (l := 0) (nt := nt) (by omega) hnt (F9 := nfF I (4 * k0 + k1) 0 nt N P F) ?_ nt 0 F (by omega) h15 (by unfold nfF; rw [if_pos c5])
    exact a_vret dReader_noteFaults_115 rfl ⟨rfl, rfl, rfl, rfl⟩
  · refine a_aload_n 0 dReader_noteFaults_8 rfl rfl ?_
    refine a_iconstN (a := 3) dReader_noteFaults_9 (by decide) ?_
    refine a_aload_n 0 dReader_noteFaults_10 rfl rfl ?_
    refine a_geti dReader_noteFaults_11 fl7_118 rfl ly_40 (by omega) ?_
    rw [show (m_row (m_row (m_row (m_row I 40 F) 57 K) 58 N) 59 P) 40 10 = F 10 from rfl]
    refine a_callV (Q' := m_res none (m_row (m_row (m_row (m_row I 40 (noF F (nI 3) (F 10))) 57 K) 58 N) 59 P) J R) (as := [.int (nI 3), .int (F 10)]) (st := []) dReader_noteFaults_14 ml7_73 rfl (Nat.le_of_ble_eq_true rfl) ly_40 rfl rfl (by decide) (by omega) (Nat.le_of_ble_eq_true rfl) rfl (Nat.le_refl _) (Nat.le_refl _) (c_note (I := I) (F := F) (K := K) (N := N) (P := P) hn hR) (m_go ?_)
    show AW _ _ _ _ _ _ _ _ [] _ _ _ _
    refine a_iconstN (a := 0) dReader_noteFaults_17 (by decide) ?_
    refine a_istore_n (lv' := [(2, .int (nI 0)), (0, .ref 40), (1, .int (nI 0))]) dReader_noteFaults_18 rfl (by decide) rfl ?_
    refine a_locs (lv' := [(2, .int (nI 0)), (0, .ref 40), (1, .int (nI 0))]) [0, 1, 2] rfl ?_
    refine l_nf hn hR (l := 0) (nt := nt) (by omega) hnt (F9 := nfF I (4 * k0 + k1) 0 nt N P F) ?_ nt 0 (noF F (nI 3) (F 10)) (by omega) (noF_15.trans h15) (by unfold nfF; rw [if_neg c5])
    exact a_vret dReader_noteFaults_115 rfl ⟨rfl, rfl, rfl, rfl⟩
theorem c_noteFaults1 {S : Nat × (Nat → Int32)} {d n : Nat} {I : mI} {J : mJ} {R : mR} (hn : 122 ≤ n) (hR : m_fin R) {K N P F : Nat → Int32} {k0 k1 : Nat} {nt : Nat} (hnt : nt ≤ 3) (h15 : F 15 = nI nt)  : RUN S (d + 2) YReader_noteFaults [.ref 40, .int (nI 1)] (m_row (m_row (m_row (m_row I 40 F) 57 K) 58 N) 59 P) J R n none (m_row (m_row (m_row (m_row I 40 (nfF I (4 * k0 + k1) 1 nt N P F)) 57 K) 58 N) 59 P) J R n := by
  show AW S _ YReader_noteFaults n n _ 0 [(0, .ref 40), (1, .int (nI 1))] [] (m_row (m_row (m_row (m_row I 40 F) 57 K) 58 N) 59 P) J R n
  refine a_aload_n 0 dReader_noteFaults_0 rfl rfl ?_
  refine a_iload_n 1 dReader_noteFaults_1 rfl rfl ?_
  refine a_callV (Q' := m_res (some (.int (tmV I (4 * k0 + k1) 1))) (m_row (m_row (m_row (m_row I 40 F) 57 K) 58 N) 59 P) J R) (as := [.int (nI 1)]) (st := []) dReader_noteFaults_2 ml7_206 rfl (Nat.le_of_ble_eq_true rfl) ly_40 rfl rfl (by decide) (by omega) (Nat.le_of_ble_eq_true rfl) rfl (Nat.le_refl _) (Nat.le_refl _) (c_tooMany1 hn hR) (m_go ?_)
  show AW _ _ _ _ _ _ _ _ [.int (tmV I (4 * k0 + k1) 1)] _ _ _ _
  refine a_if_eq (tgt := 17) dReader_noteFaults_5 (by decide) (fun c5 => ?_) (fun c5 => ?_)
  · refine a_iconstN (a := 0) dReader_noteFaults_17 (by decide) ?_
    refine a_istore_n (lv' := [(2, .int (nI 0)), (0, .ref 40), (1, .int (nI 1))]) dReader_noteFaults_18 rfl (by decide) rfl ?_
    refine a_locs (lv' := [(2, .int (nI 0)), (0, .ref 40), (1, .int (nI 1))]) [0, 1, 2] rfl ?_
    refine l_nf hn hR (l := 1) (nt := nt) (by omega) hnt (F9 := nfF I (4 * k0 + k1) 1 nt N P F) ?_ nt 0 F (by omega) h15 (by unfold nfF; rw [if_pos c5])
    exact a_vret dReader_noteFaults_115 rfl ⟨rfl, rfl, rfl, rfl⟩
  · refine a_aload_n 0 dReader_noteFaults_8 rfl rfl ?_
    refine a_iconstN (a := 3) dReader_noteFaults_9 (by decide) ?_
    refine a_aload_n 0 dReader_noteFaults_10 rfl rfl ?_
    refine a_geti dReader_noteFaults_11 fl7_118 rfl ly_40 (by omega) ?_
    rw [show (m_row (m_row (m_row (m_row I 40 F) 57 K) 58 N) 59 P) 40 10 = F 10 from rfl]
    refine a_callV (Q' := m_res none (m_row (m_row (m_row (m_row I 40 (noF F (nI 3) (F 10))) 57 K) 58 N) 59 P) J R) (as := [.int (nI 3), .int (F 10)]) (st := []) dReader_noteFaults_14 ml7_73 rfl (Nat.le_of_ble_eq_true rfl) ly_40 rfl rfl (by decide) (by omega) (Nat.le_of_ble_eq_true rfl) rfl (Nat.le_refl _) (Nat.le_refl _) (c_note (I := I) (F := F) (K := K) (N := N) (P := P) hn hR) (m_go ?_)
    show AW _ _ _ _ _ _ _ _ [] _ _ _ _
    refine a_iconstN (a := 0) dReader_noteFaults_17 (by decide) ?_
    refine a_istore_n (lv' := [(2, .int (nI 0)), (0, .ref 40), (1, .int (nI 1))]) dReader_noteFaults_18 rfl (by decide) rfl ?_
    refine a_locs (lv' := [(2, .int (nI 0)), (0, .ref 40), (1, .int (nI 1))]) [0, 1, 2] rfl ?_
    refine l_nf hn hR (l := 1) (nt := nt) (by omega) hnt (F9 := nfF I (4 * k0 + k1) 1 nt N P F) ?_ nt 0 (noF F (nI 3) (F 10)) (by omega) (noF_15.trans h15) (by unfold nfF; rw [if_neg c5])
    exact a_vret dReader_noteFaults_115 rfl ⟨rfl, rfl, rfl, rfl⟩
theorem c_noteFaults2 {S : Nat × (Nat → Int32)} {d n : Nat} {I : mI} {J : mJ} {R : mR} (hn : 122 ≤ n) (hR : m_fin R) {K N P F : Nat → Int32} {k0 k1 : Nat} {nt : Nat} (hnt : nt ≤ 3) (h15 : F 15 = nI nt)  : RUN S (d + 2) YReader_noteFaults [.ref 40, .int (nI 2)] (m_row (m_row (m_row (m_row I 40 F) 57 K) 58 N) 59 P) J R n none (m_row (m_row (m_row (m_row I 40 (nfF I (4 * k0 + k1) 2 nt N P F)) 57 K) 58 N) 59 P) J R n := by
  show AW S _ YReader_noteFaults n n _ 0 [(0, .ref 40), (1, .int (nI 2))] [] (m_row (m_row (m_row (m_row I 40 F) 57 K) 58 N) 59 P) J R n
  refine a_aload_n 0 dReader_noteFaults_0 rfl rfl ?_
  refine a_iload_n 1 dReader_noteFaults_1 rfl rfl ?_
  refine a_callV (Q' := m_res (some (.int (tmV I (4 * k0 + k1) 2))) (m_row (m_row (m_row (m_row I 40 F) 57 K) 58 N) 59 P) J R) (as := [.int (nI 2)]) (st := []) dReader_noteFaults_2 ml7_206 rfl (Nat.le_of_ble_eq_true rfl) ly_40 rfl rfl (by decide) (by omega) (Nat.le_of_ble_eq_true rfl) rfl (Nat.le_refl _) (Nat.le_refl _) (c_tooMany2 hn hR) (m_go ?_)
  show AW _ _ _ _ _ _ _ _ [.int (tmV I (4 * k0 + k1) 2)] _ _ _ _
  refine a_if_eq (tgt := 17) dReader_noteFaults_5 (by decide) (fun c5 => ?_) (fun c5 => ?_)
  · refine a_iconstN (a := 0) dReader_noteFaults_17 (by decide) ?_
    refine a_istore_n (lv' := [(2, .int (nI 0)), (0, .ref 40), (1, .int (nI 2))]) dReader_noteFaults_18 rfl (by decide) rfl ?_
    refine a_locs (lv' := [(2, .int (nI 0)), (0, .ref 40), (1, .int (nI 2))]) [0, 1, 2] rfl ?_
    refine l_nf hn hR (l := 2) (nt := nt) (by omega) hnt (F9 := nfF I (4 * k0 + k1) 2 nt N P F) ?_ nt 0 F (by omega) h15 (by unfold nfF; rw [if_pos c5])
    exact a_vret dReader_noteFaults_115 rfl ⟨rfl, rfl, rfl, rfl⟩
  · refine a_aload_n 0 dReader_noteFaults_8 rfl rfl ?_
    refine a_iconstN (a := 3) dReader_noteFaults_9 (by decide) ?_
    refine a_aload_n 0 dReader_noteFaults_10 rfl rfl ?_
    refine a_geti dReader_noteFaults_11 fl7_118 rfl ly_40 (by omega) ?_
    rw [show (m_row (m_row (m_row (m_row I 40 F) 57 K) 58 N) 59 P) 40 10 = F 10 from rfl]
    refine a_callV (Q' := m_res none (m_row (m_row (m_row (m_row I 40 (noF F (nI 3) (F 10))) 57 K) 58 N) 59 P) J R) (as := [.int (nI 3), .int (F 10)]) (st := []) dReader_noteFaults_14 ml7_73 rfl (Nat.le_of_ble_eq_true rfl) ly_40 rfl rfl (by decide) (by omega) (Nat.le_of_ble_eq_true rfl) rfl (Nat.le_refl _) (Nat.le_refl _) (c_note (I := I) (F := F) (K := K) (N := N) (P := P) hn hR) (m_go ?_)
    show AW _ _ _ _ _ _ _ _ [] _ _ _ _
    refine a_iconstN (a := 0) dReader_noteFaults_17 (by decide) ?_
    refine a_istore_n (lv' := [(2, .int (nI 0)), (0, .ref 40), (1, .int (nI 2))]) dReader_noteFaults_18 rfl (by decide) rfl ?_
    refine a_locs (lv' := [(2, .int (nI 0)), (0, .ref 40), (1, .int (nI 2))]) [0, 1, 2] rfl ?_
    refine l_nf hn hR (l := 2) (nt := nt) (by omega) hnt (F9 := nfF I (4 * k0 + k1) 2 nt N P F) ?_ nt 0 (noF F (nI 3) (F 10)) (by omega) (noF_15.trans h15) (by unfold nfF; rw [if_neg c5])
    exact a_vret dReader_noteFaults_115 rfl ⟨rfl, rfl, rfl, rfl⟩
theorem c_noteFaults3 {S : Nat × (Nat → Int32)} {d n : Nat} {I : mI} {J : mJ} {R : mR} (hn : 122 ≤ n) (hR : m_fin R) {K N P F : Nat → Int32} {k0 k1 : Nat} (hk0 : K 0 = nI k0) (hk1 : K 1 = nI k1) (hk04 : k0 < 4) (hk14 : k1 < 4) {nt : Nat} (hnt : nt ≤ 3) (h15 : F 15 = nI nt)  : RUN S (d + 2) YReader_noteFaults [.ref 40, .int (nI 3)] (m_row (m_row (m_row (m_row I 40 F) 57 K) 58 N) 59 P) J R n none (m_row (m_row (m_row (m_row I 40 (nfF I (4 * k0 + k1) 3 nt N P F)) 57 K) 58 N) 59 P) J R n := by
  show AW S _ YReader_noteFaults n n _ 0 [(0, .ref 40), (1, .int (nI 3))] [] (m_row (m_row (m_row (m_row I 40 F) 57 K) 58 N) 59 P) J R n
  refine a_aload_n 0 dReader_noteFaults_0 rfl rfl ?_
  refine a_iload_n 1 dReader_noteFaults_1 rfl rfl ?_
  refine a_callV (Q' := m_res (some (.int (tmV I (4 * k0 + k1) 3))) (m_row (m_row (m_row (m_row I 40 F) 57 K) 58 N) 59 P) J R) (as := [.int (nI 3)]) (st := []) dReader_noteFaults_2 ml7_206 rfl (Nat.le_of_ble_eq_true rfl) ly_40 rfl rfl (by decide) (by omega) (Nat.le_of_ble_eq_true rfl) rfl (Nat.le_refl _) (Nat.le_refl _) (c_tooMany3 hn hR hk0 hk1 hk04 hk14) (m_go ?_)
  show AW _ _ _ _ _ _ _ _ [.int (tmV I (4 * k0 + k1) 3)] _ _ _ _
  refine a_if_eq (tgt := 17) dReader_noteFaults_5 (by decide) (fun c5 => ?_) (fun c5 => ?_)
  · refine a_iconstN (a := 0) dReader_noteFaults_17 (by decide) ?_
    refine a_istore_n (lv' := [(2, .int (nI 0)), (0, .ref 40), (1, .int (nI 3))]) dReader_noteFaults_18 rfl (by decide) rfl ?_
    refine a_locs (lv' := [(2, .int (nI 0)), (0, .ref 40), (1, .int (nI 3))]) [0, 1, 2] rfl ?_
    refine l_nf hn hR (l := 3) (nt := nt) (by omega) hnt (F9 := nfF I (4 * k0 + k1) 3 nt N P F) ?_ nt 0 F (by omega) h15 (by unfold nfF; rw [if_pos c5])
    exact a_vret dReader_noteFaults_115 rfl ⟨rfl, rfl, rfl, rfl⟩
  · refine a_aload_n 0 dReader_noteFaults_8 rfl rfl ?_
    refine a_iconstN (a := 3) dReader_noteFaults_9 (by decide) ?_
    refine a_aload_n 0 dReader_noteFaults_10 rfl rfl ?_
    refine a_geti dReader_noteFaults_11 fl7_118 rfl ly_40 (by omega) ?_
    rw [show (m_row (m_row (m_row (m_row I 40 F) 57 K) 58 N) 59 P) 40 10 = F 10 from rfl]
    refine a_callV (Q' := m_res none (m_row (m_row (m_row (m_row I 40 (noF F (nI 3) (F 10))) 57 K) 58 N) 59 P) J R) (as := [.int (nI 3), .int (F 10)]) (st := []) dReader_noteFaults_14 ml7_73 rfl (Nat.le_of_ble_eq_true rfl) ly_40 rfl rfl (by decide) (by omega) (Nat.le_of_ble_eq_true rfl) rfl (Nat.le_refl _) (Nat.le_refl _) (c_note (I := I) (F := F) (K := K) (N := N) (P := P) hn hR) (m_go ?_)
    show AW _ _ _ _ _ _ _ _ [] _ _ _ _
    refine a_iconstN (a := 0) dReader_noteFaults_17 (by decide) ?_
    refine a_istore_n (lv' := [(2, .int (nI 0)), (0, .ref 40), (1, .int (nI 3))]) dReader_noteFaults_18 rfl (by decide) rfl ?_
    refine a_locs (lv' := [(2, .int (nI 0)), (0, .ref 40), (1, .int (nI 3))]) [0, 1, 2] rfl ?_
    refine l_nf hn hR (l := 3) (nt := nt) (by omega) hnt (F9 := nfF I (4 * k0 + k1) 3 nt N P F) ?_ nt 0 (noF F (nI 3) (F 10)) (by omega) (noF_15.trans h15) (by unfold nfF; rw [if_neg c5])
    exact a_vret dReader_noteFaults_115 rfl ⟨rfl, rfl, rfl, rfl⟩
theorem c_noteFaults4 {S : Nat × (Nat → Int32)} {d n : Nat} {I : mI} {J : mJ} {R : mR} (hn : 122 ≤ n) (hR : m_fin R) {K N P F : Nat → Int32} {k0 k1 : Nat} {nt : Nat} (hnt : nt ≤ 3) (h15 : F 15 = nI nt)  : RUN S (d + 2) YReader_noteFaults [.ref 40, .int (nI 4)] (m_row (m_row (m_row (m_row I 40 F) 57 K) 58 N) 59 P) J R n none (m_row (m_row (m_row (m_row I 40 (nfF I (4 * k0 + k1) 4 nt N P F)) 57 K) 58 N) 59 P) J R n := by
  show AW S _ YReader_noteFaults n n _ 0 [(0, .ref 40), (1, .int (nI 4))] [] (m_row (m_row (m_row (m_row I 40 F) 57 K) 58 N) 59 P) J R n
  refine a_aload_n 0 dReader_noteFaults_0 rfl rfl ?_
  refine a_iload_n 1 dReader_noteFaults_1 rfl rfl ?_
  refine a_callV (Q' := m_res (some (.int (tmV I (4 * k0 + k1) 4))) (m_row (m_row (m_row (m_row I 40 F) 57 K) 58 N) 59 P) J R) (as := [.int (nI 4)]) (st := []) dReader_noteFaults_2 ml7_206 rfl (Nat.le_of_ble_eq_true rfl) ly_40 rfl rfl (by decide) (by omega) (Nat.le_of_ble_eq_true rfl) rfl (Nat.le_refl _) (Nat.le_refl _) (c_tooMany4 hn hR) (m_go ?_)
  show AW _ _ _ _ _ _ _ _ [.int (tmV I (4 * k0 + k1) 4)] _ _ _ _
  refine a_if_eq (tgt := 17) dReader_noteFaults_5 (by decide) (fun c5 => ?_) (fun c5 => ?_)
  · refine a_iconstN (a := 0) dReader_noteFaults_17 (by decide) ?_
    refine a_istore_n (lv' := [(2, .int (nI 0)), (0, .ref 40), (1, .int (nI 4))]) dReader_noteFaults_18 rfl (by decide) rfl ?_
    refine a_locs (lv' := [(2, .int (nI 0)), (0, .ref 40), (1, .int (nI 4))]) [0, 1, 2] rfl ?_
    refine l_nf hn hR (l := 4) (nt := nt) (by omega) hnt (F9 := nfF I (4 * k0 + k1) 4 nt N P F) ?_ nt 0 F (by omega) h15 (by unfold nfF; rw [if_pos c5])
    exact a_vret dReader_noteFaults_115 rfl ⟨rfl, rfl, rfl, rfl⟩
  · refine a_aload_n 0 dReader_noteFaults_8 rfl rfl ?_
    refine a_iconstN (a := 3) dReader_noteFaults_9 (by decide) ?_
    refine a_aload_n 0 dReader_noteFaults_10 rfl rfl ?_
    refine a_geti dReader_noteFaults_11 fl7_118 rfl ly_40 (by omega) ?_
    rw [show (m_row (m_row (m_row (m_row I 40 F) 57 K) 58 N) 59 P) 40 10 = F 10 from rfl]
    refine a_callV (Q' := m_res none (m_row (m_row (m_row (m_row I 40 (noF F (nI 3) (F 10))) 57 K) 58 N) 59 P) J R) (as := [.int (nI 3), .int (F 10)]) (st := []) dReader_noteFaults_14 ml7_73 rfl (Nat.le_of_ble_eq_true rfl) ly_40 rfl rfl (by decide) (by omega) (Nat.le_of_ble_eq_true rfl) rfl (Nat.le_refl _) (Nat.le_refl _) (c_note (I := I) (F := F) (K := K) (N := N) (P := P) hn hR) (m_go ?_)
    show AW _ _ _ _ _ _ _ _ [] _ _ _ _
    refine a_iconstN (a := 0) dReader_noteFaults_17 (by decide) ?_
    refine a_istore_n (lv' := [(2, .int (nI 0)), (0, .ref 40), (1, .int (nI 4))]) dReader_noteFaults_18 rfl (by decide) rfl ?_
    refine a_locs (lv' := [(2, .int (nI 0)), (0, .ref 40), (1, .int (nI 4))]) [0, 1, 2] rfl ?_
    refine l_nf hn hR (l := 4) (nt := nt) (by omega) hnt (F9 := nfF I (4 * k0 + k1) 4 nt N P F) ?_ nt 0 (noF F (nI 3) (F 10)) (by omega) (noF_15.trans h15) (by unfold nfF; rw [if_neg c5])
    exact a_vret dReader_noteFaults_115 rfl ⟨rfl, rfl, rfl, rfl⟩
theorem c_noteFaults5 {S : Nat × (Nat → Int32)} {d n : Nat} {I : mI} {J : mJ} {R : mR} (hn : 122 ≤ n) (hR : m_fin R) {K N P F : Nat → Int32} {k0 k1 : Nat} {nt : Nat} (hnt : nt ≤ 3) (h15 : F 15 = nI nt)  : RUN S (d + 2) YReader_noteFaults [.ref 40, .int (nI 5)] (m_row (m_row (m_row (m_row I 40 F) 57 K) 58 N) 59 P) J R n none (m_row (m_row (m_row (m_row I 40 (nfF I (4 * k0 + k1) 5 nt N P F)) 57 K) 58 N) 59 P) J R n := by
  show AW S _ YReader_noteFaults n n _ 0 [(0, .ref 40), (1, .int (nI 5))] [] (m_row (m_row (m_row (m_row I 40 F) 57 K) 58 N) 59 P) J R n
  refine a_aload_n 0 dReader_noteFaults_0 rfl rfl ?_
  refine a_iload_n 1 dReader_noteFaults_1 rfl rfl ?_
  refine a_callV (Q' := m_res (some (.int (tmV I (4 * k0 + k1) 5))) (m_row (m_row (m_row (m_row I 40 F) 57 K) 58 N) 59 P) J R) (as := [.int (nI 5)]) (st := []) dReader_noteFaults_2 ml7_206 rfl (Nat.le_of_ble_eq_true rfl) ly_40 rfl rfl (by decide) (by omega) (Nat.le_of_ble_eq_true rfl) rfl (Nat.le_refl _) (Nat.le_refl _) (c_tooMany5 hn hR) (m_go ?_)
  show AW _ _ _ _ _ _ _ _ [.int (tmV I (4 * k0 + k1) 5)] _ _ _ _
  refine a_if_eq (tgt := 17) dReader_noteFaults_5 (by decide) (fun c5 => ?_) (fun c5 => ?_)
  · refine a_iconstN (a := 0) dReader_noteFaults_17 (by decide) ?_
    refine a_istore_n (lv' := [(2, .int (nI 0)), (0, .ref 40), (1, .int (nI 5))]) dReader_noteFaults_18 rfl (by decide) rfl ?_
    refine a_locs (lv' := [(2, .int (nI 0)), (0, .ref 40), (1, .int (nI 5))]) [0, 1, 2] rfl ?_
    refine l_nf hn hR (l := 5) (nt := nt) (by omega) hnt (F9 := nfF I (4 * k0 + k1) 5 nt N P F) ?_ nt 0 F (by omega) h15 (by unfold nfF; rw [if_pos c5])
    exact a_vret dReader_noteFaults_115 rfl ⟨rfl, rfl, rfl, rfl⟩
  · refine a_aload_n 0 dReader_noteFaults_8 rfl rfl ?_
    refine a_iconstN (a := 3) dReader_noteFaults_9 (by decide) ?_
    refine a_aload_n 0 dReader_noteFaults_10 rfl rfl ?_
    refine a_geti dReader_noteFaults_11 fl7_118 rfl ly_40 (by omega) ?_
    rw [show (m_row (m_row (m_row (m_row I 40 F) 57 K) 58 N) 59 P) 40 10 = F 10 from rfl]
    refine a_callV (Q' := m_res none (m_row (m_row (m_row (m_row I 40 (noF F (nI 3) (F 10))) 57 K) 58 N) 59 P) J R) (as := [.int (nI 3), .int (F 10)]) (st := []) dReader_noteFaults_14 ml7_73 rfl (Nat.le_of_ble_eq_true rfl) ly_40 rfl rfl (by decide) (by omega) (Nat.le_of_ble_eq_true rfl) rfl (Nat.le_refl _) (Nat.le_refl _) (c_note (I := I) (F := F) (K := K) (N := N) (P := P) hn hR) (m_go ?_)
    show AW _ _ _ _ _ _ _ _ [] _ _ _ _
    refine a_iconstN (a := 0) dReader_noteFaults_17 (by decide) ?_
    refine a_istore_n (lv' := [(2, .int (nI 0)), (0, .ref 40), (1, .int (nI 5))]) dReader_noteFaults_18 rfl (by decide) rfl ?_
    refine a_locs (lv' := [(2, .int (nI 0)), (0, .ref 40), (1, .int (nI 5))]) [0, 1, 2] rfl ?_
    refine l_nf hn hR (l := 5) (nt := nt) (by omega) hnt (F9 := nfF I (4 * k0 + k1) 5 nt N P F) ?_ nt 0 (noF F (nI 3) (F 10)) (by omega) (noF_15.trans h15) (by unfold nfF; rw [if_neg c5])
    exact a_vret dReader_noteFaults_115 rfl ⟨rfl, rfl, rfl, rfl⟩
theorem c_noteFaults6 {S : Nat × (Nat → Int32)} {d n : Nat} {I : mI} {J : mJ} {R : mR} (hn : 122 ≤ n) (hR : m_fin R) {K N P F : Nat → Int32} {k0 k1 : Nat} {nt : Nat} (hnt : nt ≤ 3) (h15 : F 15 = nI nt)  : RUN S (d + 2) YReader_noteFaults [.ref 40, .int (nI 6)] (m_row (m_row (m_row (m_row I 40 F) 57 K) 58 N) 59 P) J R n none (m_row (m_row (m_row (m_row I 40 (nfF I (4 * k0 + k1) 6 nt N P F)) 57 K) 58 N) 59 P) J R n := by
  show AW S _ YReader_noteFaults n n _ 0 [(0, .ref 40), (1, .int (nI 6))] [] (m_row (m_row (m_row (m_row I 40 F) 57 K) 58 N) 59 P) J R n
  refine a_aload_n 0 dReader_noteFaults_0 rfl rfl ?_
  refine a_iload_n 1 dReader_noteFaults_1 rfl rfl ?_
  refine a_callV (Q' := m_res (some (.int (tmV I (4 * k0 + k1) 6))) (m_row (m_row (m_row (m_row I 40 F) 57 K) 58 N) 59 P) J R) (as := [.int (nI 6)]) (st := []) dReader_noteFaults_2 ml7_206 rfl (Nat.le_of_ble_eq_true rfl) ly_40 rfl rfl (by decide) (by omega) (Nat.le_of_ble_eq_true rfl) rfl (Nat.le_refl _) (Nat.le_refl _) (c_tooMany6 hn hR) (m_go ?_)
  show AW _ _ _ _ _ _ _ _ [.int (tmV I (4 * k0 + k1) 6)] _ _ _ _
  refine a_if_eq (tgt := 17) dReader_noteFaults_5 (by decide) (fun c5 => ?_) (fun c5 => ?_)
  · refine a_iconstN (a := 0) dReader_noteFaults_17 (by decide) ?_
    refine a_istore_n (lv' := [(2, .int (nI 0)), (0, .ref 40), (1, .int (nI 6))]) dReader_noteFaults_18 rfl (by decide) rfl ?_
    refine a_locs (lv' := [(2, .int (nI 0)), (0, .ref 40), (1, .int (nI 6))]) [0, 1, 2] rfl ?_
    refine l_nf hn hR (l := 6) (nt := nt) (by omega) hnt (F9 := nfF I (4 * k0 + k1) 6 nt N P F) ?_ nt 0 F (by omega) h15 (by unfold nfF; rw [if_pos c5])
    exact a_vret dReader_noteFaults_115 rfl ⟨rfl, rfl, rfl, rfl⟩
  · refine a_aload_n 0 dReader_noteFaults_8 rfl rfl ?_
    refine a_iconstN (a := 3) dReader_noteFaults_9 (by decide) ?_
    refine a_aload_n 0 dReader_noteFaults_10 rfl rfl ?_
    refine a_geti dReader_noteFaults_11 fl7_118 rfl ly_40 (by omega) ?_
    rw [show (m_row (m_row (m_row (m_row I 40 F) 57 K) 58 N) 59 P) 40 10 = F 10 from rfl]
    refine a_callV (Q' := m_res none (m_row (m_row (m_row (m_row I 40 (noF F (nI 3) (F 10))) 57 K) 58 N) 59 P) J R) (as := [.int (nI 3), .int (F 10)]) (st := []) dReader_noteFaults_14 ml7_73 rfl (Nat.le_of_ble_eq_true rfl) ly_40 rfl rfl (by decide) (by omega) (Nat.le_of_ble_eq_true rfl) rfl (Nat.le_refl _) (Nat.le_refl _) (c_note (I := I) (F := F) (K := K) (N := N) (P := P) hn hR) (m_go ?_)
    show AW _ _ _ _ _ _ _ _ [] _ _ _ _
    refine a_iconstN (a := 0) dReader_noteFaults_17 (by decide) ?_
    refine a_istore_n (lv' := [(2, .int (nI 0)), (0, .ref 40), (1, .int (nI 6))]) dReader_noteFaults_18 rfl (by decide) rfl ?_
    refine a_locs (lv' := [(2, .int (nI 0)), (0, .ref 40), (1, .int (nI 6))]) [0, 1, 2] rfl ?_
    refine l_nf hn hR (l := 6) (nt := nt) (by omega) hnt (F9 := nfF I (4 * k0 + k1) 6 nt N P F) ?_ nt 0 (noF F (nI 3) (F 10)) (by omega) (noF_15.trans h15) (by unfold nfF; rw [if_neg c5])
    exact a_vret dReader_noteFaults_115 rfl ⟨rfl, rfl, rfl, rfl⟩
theorem c_noteFaults7 {S : Nat × (Nat → Int32)} {d n : Nat} {I : mI} {J : mJ} {R : mR} (hn : 122 ≤ n) (hR : m_fin R) {K N P F : Nat → Int32} {k0 k1 : Nat} {nt : Nat} (hnt : nt ≤ 3) (h15 : F 15 = nI nt)  : RUN S (d + 2) YReader_noteFaults [.ref 40, .int (nI 7)] (m_row (m_row (m_row (m_row I 40 F) 57 K) 58 N) 59 P) J R n none (m_row (m_row (m_row (m_row I 40 (nfF I (4 * k0 + k1) 7 nt N P F)) 57 K) 58 N) 59 P) J R n := by
  show AW S _ YReader_noteFaults n n _ 0 [(0, .ref 40), (1, .int (nI 7))] [] (m_row (m_row (m_row (m_row I 40 F) 57 K) 58 N) 59 P) J R n
  refine a_aload_n 0 dReader_noteFaults_0 rfl rfl ?_
  refine a_iload_n 1 dReader_noteFaults_1 rfl rfl ?_
  refine a_callV (Q' := m_res (some (.int (tmV I (4 * k0 + k1) 7))) (m_row (m_row (m_row (m_row I 40 F) 57 K) 58 N) 59 P) J R) (as := [.int (nI 7)]) (st := []) dReader_noteFaults_2 ml7_206 rfl (Nat.le_of_ble_eq_true rfl) ly_40 rfl rfl (by decide) (by omega) (Nat.le_of_ble_eq_true rfl) rfl (Nat.le_refl _) (Nat.le_refl _) (c_tooMany7 hn hR) (m_go ?_)
  show AW _ _ _ _ _ _ _ _ [.int (tmV I (4 * k0 + k1) 7)] _ _ _ _
  refine a_if_eq (tgt := 17) dReader_noteFaults_5 (by decide) (fun c5 => ?_) (fun c5 => ?_)
  · refine a_iconstN (a := 0) dReader_noteFaults_17 (by decide) ?_
    refine a_istore_n (lv' := [(2, .int (nI 0)), (0, .ref 40), (1, .int (nI 7))]) dReader_noteFaults_18 rfl (by decide) rfl ?_
    refine a_locs (lv' := [(2, .int (nI 0)), (0, .ref 40), (1, .int (nI 7))]) [0, 1, 2] rfl ?_
    refine l_nf hn hR (l := 7) (nt := nt) (by omega) hnt (F9 := nfF I (4 * k0 + k1) 7 nt N P F) ?_ nt 0 F (by omega) h15 (by unfold nfF; rw [if_pos c5])
    exact a_vret dReader_noteFaults_115 rfl ⟨rfl, rfl, rfl, rfl⟩
  · refine a_aload_n 0 dReader_noteFaults_8 rfl rfl ?_
    refine a_iconstN (a := 3) dReader_noteFaults_9 (by decide) ?_
    refine a_aload_n 0 dReader_noteFaults_10 rfl rfl ?_
    refine a_geti dReader_noteFaults_11 fl7_118 rfl ly_40 (by omega) ?_
    rw [show (m_row (m_row (m_row (m_row I 40 F) 57 K) 58 N) 59 P) 40 10 = F 10 from rfl]
    refine a_callV (Q' := m_res none (m_row (m_row (m_row (m_row I 40 (noF F (nI 3) (F 10))) 57 K) 58 N) 59 P) J R) (as := [.int (nI 3), .int (F 10)]) (st := []) dReader_noteFaults_14 ml7_73 rfl (Nat.le_of_ble_eq_true rfl) ly_40 rfl rfl (by decide) (by omega) (Nat.le_of_ble_eq_true rfl) rfl (Nat.le_refl _) (Nat.le_refl _) (c_note (I := I) (F := F) (K := K) (N := N) (P := P) hn hR) (m_go ?_)
    show AW _ _ _ _ _ _ _ _ [] _ _ _ _
    refine a_iconstN (a := 0) dReader_noteFaults_17 (by decide) ?_
    refine a_istore_n (lv' := [(2, .int (nI 0)), (0, .ref 40), (1, .int (nI 7))]) dReader_noteFaults_18 rfl (by decide) rfl ?_
    refine a_locs (lv' := [(2, .int (nI 0)), (0, .ref 40), (1, .int (nI 7))]) [0, 1, 2] rfl ?_
    refine l_nf hn hR (l := 7) (nt := nt) (by omega) hnt (F9 := nfF I (4 * k0 + k1) 7 nt N P F) ?_ nt 0 (noF F (nI 3) (F 10)) (by omega) (noF_15.trans h15) (by unfold nfF; rw [if_neg c5])
    exact a_vret dReader_noteFaults_115 rfl ⟨rfl, rfl, rfl, rfl⟩
theorem c_noteFaults8 {S : Nat × (Nat → Int32)} {d n : Nat} {I : mI} {J : mJ} {R : mR} (hn : 122 ≤ n) (hR : m_fin R) {K N P F : Nat → Int32} {k0 k1 : Nat} {nt : Nat} (hnt : nt ≤ 3) (h15 : F 15 = nI nt)  : RUN S (d + 2) YReader_noteFaults [.ref 40, .int (nI 8)] (m_row (m_row (m_row (m_row I 40 F) 57 K) 58 N) 59 P) J R n none (m_row (m_row (m_row (m_row I 40 (nfF I (4 * k0 + k1) 8 nt N P F)) 57 K) 58 N) 59 P) J R n := by
  show AW S _ YReader_noteFaults n n _ 0 [(0, .ref 40), (1, .int (nI 8))] [] (m_row (m_row (m_row (m_row I 40 F) 57 K) 58 N) 59 P) J R n
  refine a_aload_n 0 dReader_noteFaults_0 rfl rfl ?_
  refine a_iload_n 1 dReader_noteFaults_1 rfl rfl ?_
  refine a_callV (Q' := m_res (some (.int (tmV I (4 * k0 + k1) 8))) (m_row (m_row (m_row (m_row I 40 F) 57 K) 58 N) 59 P) J R) (as := [.int (nI 8)]) (st := []) dReader_noteFaults_2 ml7_206 rfl (Nat.le_of_ble_eq_true rfl) ly_40 rfl rfl (by decide) (by omega) (Nat.le_of_ble_eq_true rfl) rfl (Nat.le_refl _) (Nat.le_refl _) (c_tooMany8 hn hR) (m_go ?_)
  show AW _ _ _ _ _ _ _ _ [.int (tmV I (4 * k0 + k1) 8)] _ _ _ _
  refine a_if_eq (tgt := 17) dReader_noteFaults_5 (by decide) (fun c5 => ?_) (fun c5 => ?_)
  · refine a_iconstN (a := 0) dReader_noteFaults_17 (by decide) ?_
    refine a_istore_n (lv' := [(2, .int (nI 0)), (0, .ref 40), (1, .int (nI 8))]) dReader_noteFaults_18 rfl (by decide) rfl ?_
    refine a_locs (lv' := [(2, .int (nI 0)), (0, .ref 40), (1, .int (nI 8))]) [0, 1, 2] rfl ?_
    refine l_nf hn hR (l := 8) (nt := nt) (by omega) hnt (F9 := nfF I (4 * k0 + k1) 8 nt N P F) ?_ nt 0 F (by omega) h15 (by unfold nfF; rw [if_pos c5])
    exact a_vret dReader_noteFaults_115 rfl ⟨rfl, rfl, rfl, rfl⟩
  · refine a_aload_n 0 dReader_noteFaults_8 rfl rfl ?_
    refine a_iconstN (a := 3) dReader_noteFaults_9 (by decide) ?_
    refine a_aload_n 0 dReader_noteFaults_10 rfl rfl ?_
    refine a_geti dReader_noteFaults_11 fl7_118 rfl ly_40 (by omega) ?_
    rw [show (m_row (m_row (m_row (m_row I 40 F) 57 K) 58 N) 59 P) 40 10 = F 10 from rfl]
    refine a_callV (Q' := m_res none (m_row (m_row (m_row (m_row I 40 (noF F (nI 3) (F 10))) 57 K) 58 N) 59 P) J R) (as := [.int (nI 3), .int (F 10)]) (st := []) dReader_noteFaults_14 ml7_73 rfl (Nat.le_of_ble_eq_true rfl) ly_40 rfl rfl (by decide) (by omega) (Nat.le_of_ble_eq_true rfl) rfl (Nat.le_refl _) (Nat.le_refl _) (c_note (I := I) (F := F) (K := K) (N := N) (P := P) hn hR) (m_go ?_)
    show AW _ _ _ _ _ _ _ _ [] _ _ _ _
    refine a_iconstN (a := 0) dReader_noteFaults_17 (by decide) ?_
    refine a_istore_n (lv' := [(2, .int (nI 0)), (0, .ref 40), (1, .int (nI 8))]) dReader_noteFaults_18 rfl (by decide) rfl ?_
    refine a_locs (lv' := [(2, .int (nI 0)), (0, .ref 40), (1, .int (nI 8))]) [0, 1, 2] rfl ?_
    refine l_nf hn hR (l := 8) (nt := nt) (by omega) hnt (F9 := nfF I (4 * k0 + k1) 8 nt N P F) ?_ nt 0 (noF F (nI 3) (F 10)) (by omega) (noF_15.trans h15) (by unfold nfF; rw [if_neg c5])
    exact a_vret dReader_noteFaults_115 rfl ⟨rfl, rfl, rfl, rfl⟩
theorem c_noteFaults9 {S : Nat × (Nat → Int32)} {d n : Nat} {I : mI} {J : mJ} {R : mR} (hn : 122 ≤ n) (hR : m_fin R) {K N P F : Nat → Int32} {k0 k1 : Nat} {nt : Nat} (hnt : nt ≤ 3) (h15 : F 15 = nI nt)  : RUN S (d + 2) YReader_noteFaults [.ref 40, .int (nI 9)] (m_row (m_row (m_row (m_row I 40 F) 57 K) 58 N) 59 P) J R n none (m_row (m_row (m_row (m_row I 40 (nfF I (4 * k0 + k1) 9 nt N P F)) 57 K) 58 N) 59 P) J R n := by
  show AW S _ YReader_noteFaults n n _ 0 [(0, .ref 40), (1, .int (nI 9))] [] (m_row (m_row (m_row (m_row I 40 F) 57 K) 58 N) 59 P) J R n
  refine a_aload_n 0 dReader_noteFaults_0 rfl rfl ?_
  refine a_iload_n 1 dReader_noteFaults_1 rfl rfl ?_
  refine a_callV (Q' := m_res (some (.int (tmV I (4 * k0 + k1) 9))) (m_row (m_row (m_row (m_row I 40 F) 57 K) 58 N) 59 P) J R) (as := [.int (nI 9)]) (st := []) dReader_noteFaults_2 ml7_206 rfl (Nat.le_of_ble_eq_true rfl) ly_40 rfl rfl (by decide) (by omega) (Nat.le_of_ble_eq_true rfl) rfl (Nat.le_refl _) (Nat.le_refl _) (c_tooMany9 hn hR) (m_go ?_)
  show AW _ _ _ _ _ _ _ _ [.int (tmV I (4 * k0 + k1) 9)] _ _ _ _
  refine a_if_eq (tgt := 17) dReader_noteFaults_5 (by decide) (fun c5 => ?_) (fun c5 => ?_)
  · refine a_iconstN (a := 0) dReader_noteFaults_17 (by decide) ?_
    refine a_istore_n (lv' := [(2, .int (nI 0)), (0, .ref 40), (1, .int (nI 9))]) dReader_noteFaults_18 rfl (by decide) rfl ?_
    refine a_locs (lv' := [(2, .int (nI 0)), (0, .ref 40), (1, .int (nI 9))]) [0, 1, 2] rfl ?_
    refine l_nf hn hR (l := 9) (nt := nt) (by omega) hnt (F9 := nfF I (4 * k0 + k1) 9 nt N P F) ?_ nt 0 F (by omega) h15 (by unfold nfF; rw [if_pos c5])
    exact a_vret dReader_noteFaults_115 rfl ⟨rfl, rfl, rfl, rfl⟩
  · refine a_aload_n 0 dReader_noteFaults_8 rfl rfl ?_
    refine a_iconstN (a := 3) dReader_noteFaults_9 (by decide) ?_
    refine a_aload_n 0 dReader_noteFaults_10 rfl rfl ?_
    refine a_geti dReader_noteFaults_11 fl7_118 rfl ly_40 (by omega) ?_
    rw [show (m_row (m_row (m_row (m_row I 40 F) 57 K) 58 N) 59 P) 40 10 = F 10 from rfl]
    refine a_callV (Q' := m_res none (m_row (m_row (m_row (m_row I 40 (noF F (nI 3) (F 10))) 57 K) 58 N) 59 P) J R) (as := [.int (nI 3), .int (F 10)]) (st := []) dReader_noteFaults_14 ml7_73 rfl (Nat.le_of_ble_eq_true rfl) ly_40 rfl rfl (by decide) (by omega) (Nat.le_of_ble_eq_true rfl) rfl (Nat.le_refl _) (Nat.le_refl _) (c_note (I := I) (F := F) (K := K) (N := N) (P := P) hn hR) (m_go ?_)
    show AW _ _ _ _ _ _ _ _ [] _ _ _ _
    refine a_iconstN (a := 0) dReader_noteFaults_17 (by decide) ?_
    refine a_istore_n (lv' := [(2, .int (nI 0)), (0, .ref 40), (1, .int (nI 9))]) dReader_noteFaults_18 rfl (by decide) rfl ?_
    refine a_locs (lv' := [(2, .int (nI 0)), (0, .ref 40), (1, .int (nI 9))]) [0, 1, 2] rfl ?_
    refine l_nf hn hR (l := 9) (nt := nt) (by omega) hnt (F9 := nfF I (4 * k0 + k1) 9 nt N P F) ?_ nt 0 (noF F (nI 3) (F 10)) (by omega) (noF_15.trans h15) (by unfold nfF; rw [if_neg c5])
    exact a_vret dReader_noteFaults_115 rfl ⟨rfl, rfl, rfl, rfl⟩
