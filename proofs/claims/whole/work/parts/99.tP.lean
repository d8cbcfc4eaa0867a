def stF (g h : Nat → Int32) (b i : Nat) : Nat → Int32 := fun j => if b ≤ j ∧ j < b + i then g (j - b) else h j
theorem stF_0 {g h : Nat → Int32} {b : Nat} : stF g h b 0 = h := by
  funext j; unfold stF; rw [if_neg (by omega)]
theorem stF_s {g h : Nat → Int32} {b i : Nat} : va_up (stF g h b i) (b + i) (g i) = stF g h b (i + 1) := by
  funext j
  unfold va_up stF
  by_cases e : j = b + i
  · subst e; rw [if_pos rfl, if_pos (by omega), show b + i - b = i by omega]
  · rw [if_neg e]
    by_cases c : b ≤ j ∧ j < b + i
    · rw [if_pos c, if_pos (by omega)]
    · rw [if_neg c, if_neg (by omega)]
theorem l_store0 {S : Nat × (Nat → Int32)} {d n : Nat} {I : mI} {J : mJ} {R : mR} (hn : 122 ≤ n) (hR : m_fin R) {k : Nat} (hk : k < 2) {Q : Option Value → mI → mJ → mR → Prop} (hx : AW S d YM_store n n Q 30 [(4, .int (nI 75)), (0, .ref 95), (1, .ref 101), (2, .int (nI 75)), (3, .int (nI k))] [] (m_row I 101 (stF (I 104) (I 101) (75 * k) 75)) J R n) : ∀ m i, i + m = 75 → AW S d YM_store n n Q 3 [(4, .int (nI i)), (0, .ref 95), (1, .ref 101), (2, .int (nI 75)), (3, .int (nI k))] [] (m_row I 101 (stF (I 104) (I 101) (75 * k) i)) J R n := by
  intro m
  induction m with
  | zero =>
    intro i hi
    obtain rfl : i = 75 := by omega
    refine a_iload 0 dM_store_3 rfl ?_
    refine a_iload_n 3 dM_store_5 rfl rfl ?_
    refine a_icmp_geN (tgt := 30) dM_store_6 (by decide) (by omega) (by omega) (fun _ => ?_) (fun c => False.elim (by omega))
    exact hx
  | succ m ih =>
    intro i hi
    refine a_iload 0 dM_store_3 rfl ?_
    refine a_iload_n 3 dM_store_5 rfl rfl ?_
    refine a_icmp_geN (tgt := 30) dM_store_6 (by decide) (by omega) (by omega) (fun c => False.elim (by omega)) (fun _ => ?_)
    refine a_aload_n 2 dM_store_9 rfl rfl ?_
    refine a_iload_n 3 dM_store_10 rfl rfl ?_
    refine a_iload_n 4 dM_store_11 rfl rfl ?_
    refine a_imulN (a := 75) (b := k) dM_store_12 ?_
    refine a_iload 0 dM_store_13 rfl ?_
    refine a_iaddN (a := (75 * k)) (b := i) dM_store_15 ?_
    refine a_aload_n 1 dM_store_16 rfl rfl ?_
    refine a_geta (r := 104) dM_store_17 fl12_35 rfl ly_95 (by omega) (rf_95_18 hR) ?_
    refine a_iload 0 dM_store_20 rfl ?_
    refine a_ialdN (a := i) dM_store_22 ly_104 (by omega) (by omega) (by decide) ?_
    rw [show (m_row I 101 (stF (I 104) (I 101) (75 * k) i)) 104 i = I 104 i from rfl]
    refine a_iastN (a := ((75 * k) + i)) dM_store_23 ly_101 (by omega) (by omega) (by decide) ?_
    rw [show m_up (m_row I 101 (stF (I 104) (I 101) (75 * k) i)) 101 ((75 * k) + i) (I 104 i) = (m_row I 101 (va_up (stF (I 104) (I 101) (75 * k) i) ((75 * k) + i) (I 104 i))) from (by rw [m_up_r])]
    refine a_iincN (lv' := [(4, .int (nI (i + 1))), (0, .ref 95), (1, .ref 101), (2, .int (nI 75)), (3, .int (nI k))]) (j := 0) dM_store_24 rfl (by decide) rfl ?_
    refine a_goto (tgt := 3) dM_store_27 (by decide) ?_
    refine a_locs (lv' := [(4, .int (nI (i + 1))), (0, .ref 95), (1, .ref 101), (2, .int (nI 75)), (3, .int (nI k))]) [0, 1, 2, 3, 4] rfl ?_
    rw [stF_s]
    exact ih (i + 1) (by omega)
theorem c_store0 {S : Nat × (Nat → Int32)} {d n : Nat} {I : mI} {J : mJ} {R : mR} (hn : 122 ≤ n) (hR : m_fin R) {k : Nat} (hk : k < 2) : RUN S d YM_store [.ref 95, .ref 101, .int (nI 75), .int (nI k)] I J R n none (m_row I 101 (stF (I 104) (I 101) (75 * k) 75)) J R n := by
  show AW S _ YM_store n n _ 0 [(0, .ref 95), (1, .ref 101), (2, .int (nI 75)), (3, .int (nI k))] [] I J R n
  refine a_mem (show I = m_row I 101 (I 101) from (m_row_self).symm) ?_
  refine a_iconstN (a := 0) dM_store_0 (by decide) ?_
  refine a_istore (lv' := [(4, .int (nI 0)), (0, .ref 95), (1, .ref 101), (2, .int (nI 75)), (3, .int (nI k))]) dM_store_1 (by decide) rfl ?_
  refine a_locs (lv' := [(4, .int (nI 0)), (0, .ref 95), (1, .ref 101), (2, .int (nI 75)), (3, .int (nI k))]) [0, 1, 2, 3, 4] rfl ?_
  refine a_mem (show m_row I 101 (I 101) = (m_row I 101 (stF (I 104) (I 101) (75 * k) 0)) by rw [stF_0]) ?_
  refine l_store0 hn hR hk ?_ 75 0 rfl
  exact a_vret dM_store_30 rfl ⟨rfl, rfl, rfl, rfl⟩
theorem l_store1 {S : Nat × (Nat → Int32)} {d n : Nat} {I : mI} {J : mJ} {R : mR} (hn : 122 ≤ n) (hR : m_fin R) {k : Nat} (hk : k < 2) {Q : Option Value → mI → mJ → mR → Prop} (hx : AW S d YM_store n n Q 30 [(4, .int (nI 121)), (0, .ref 95), (1, .ref 102), (2, .int (nI 121)), (3, .int (nI k))] [] (m_row I 102 (stF (I 104) (I 102) (121 * k) 121)) J R n) : ∀ m i, i + m = 121 → AW S d YM_store n n Q 3 [(4, .int (nI i)), (0, .ref 95), (1, .ref 102), (2, .int (nI 121)), (3, .int (nI k))] [] (m_row I 102 (stF (I 104) (I 102) (121 * k) i)) J R n := by
  intro m
  induction m with
  | zero =>
    intro i hi
    obtain rfl : i = 121 := by omega
    refine a_iload 0 dM_store_3 rfl ?_
    refine a_iload_n 3 dM_store_5 rfl rfl ?_
    refine a_icmp_geN (tgt := 30) dM_store_6 (by decide) (by omega) (by omega) (fun _ => ?_) (fun c => False.elim (by omega))
    exact hx
  | succ m ih =>
    intro i hi
    refine a_iload 0 dM_store_3 rfl ?_
    refine a_iload_n 3 dM_store_5 rfl rfl ?_
    refine a_icmp_geN (tgt := 30) dM_store_6 (by decide) (by omega) (by omega) (fun c => False.elim (by omega)) (fun _ => ?_)
    refine a_aload_n 2 dM_store_9 rfl rfl ?_
    refine a_iload_n 3 dM_store_10 rfl rfl ?_
    refine a_iload_n 4 dM_store_11 rfl rfl ?_
    refine a_imulN (a := 121) (b := k) dM_store_12 ?_
    refine a_iload 0 dM_store_13 rfl ?_
    refine a_iaddN (a := (121 * k)) (b := i) dM_store_15 ?_
    refine a_aload_n 1 dM_store_16 rfl rfl ?_
    refine a_geta (r := 104) dM_store_17 fl12_35 rfl ly_95 (by omega) (rf_95_18 hR) ?_
    refine a_iload 0 dM_store_20 rfl ?_
    refine a_ialdN (a := i) dM_store_22 ly_104 (by omega) (by omega) (by decide) ?_
    rw [show (m_row I 102 (stF (I 104) (I 102) (121 * k) i)) 104 i = I 104 i from rfl]
    refine a_iastN (a := ((121 * k) + i)) dM_store_23 ly_102 (by omega) (by omega) (by decide) ?_
    rw [show m_up (m_row I 102 (stF (I 104) (I 102) (121 * k) i)) 102 ((121 * k) + i) (I 104 i) = (m_row I 102 (va_up (stF (I 104) (I 102) (121 * k) i) ((121 * k) + i) (I 104 i))) from (by rw [m_up_r])]
    refine a_iincN (lv' := [(4, .int (nI (i + 1))), (0, .ref 95), (1, .ref 102), (2, .int (nI 121)), (3, .int (nI k))]) (j := 0) dM_store_24 rfl (by decide) rfl ?_
    refine a_goto (tgt := 3) dM_store_27 (by decide) ?_
    refine a_locs (lv' := [(4, .int (nI (i + 1))), (0, .ref 95), (1, .ref 102), (2, .int (nI 121)), (3, .int (nI k))]) [0, 1, 2, 3, 4] rfl ?_
    rw [stF_s]
    exact ih (i + 1) (by omega)
theorem c_store1 {S : Nat × (Nat → Int32)} {d n : Nat} {I : mI} {J : mJ} {R : mR} (hn : 122 ≤ n) (hR : m_fin R) {k : Nat} (hk : k < 2) : RUN S d YM_store [.ref 95, .ref 102, .int (nI 121), .int (nI k)] I J R n none (m_row I 102 (stF (I 104) (I 102) (121 * k) 121)) J R n := by
  show AW S _ YM_store n n _ 0 [(0, .ref 95), (1, .ref 102), (2, .int (nI 121)), (3, .int (nI k))] [] I J R n
  refine a_mem (show I = m_row I 102 (I 102) from (m_row_self).symm) ?_
  refine a_iconstN (a := 0) dM_store_0 (by decide) ?_
  refine a_istore (lv' := [(4, .int (nI 0)), (0, .ref 95), (1, .ref 102), (2, .int (nI 121)), (3, .int (nI k))]) dM_store_1 (by decide) rfl ?_
  refine a_locs (lv' := [(4, .int (nI 0)), (0, .ref 95), (1, .ref 102), (2, .int (nI 121)), (3, .int (nI k))]) [0, 1, 2, 3, 4] rfl ?_
  refine a_mem (show m_row I 102 (I 102) = (m_row I 102 (stF (I 104) (I 102) (121 * k) 0)) by rw [stF_0]) ?_
  refine l_store1 hn hR hk ?_ 121 0 rfl
  exact a_vret dM_store_30 rfl ⟨rfl, rfl, rfl, rfl⟩
theorem l_store2 {S : Nat × (Nat → Int32)} {d n : Nat} {I : mI} {J : mJ} {R : mR} (hn : 122 ≤ n) (hR : m_fin R) {k : Nat} (hk : k < 2) {Q : Option Value → mI → mJ → mR → Prop} (hx : AW S d YM_store n n Q 30 [(4, .int (nI 17)), (0, .ref 95), (1, .ref 103), (2, .int (nI 17)), (3, .int (nI k))] [] (m_row I 103 (stF (I 104) (I 103) (17 * k) 17)) J R n) : ∀ m i, i + m = 17 → AW S d YM_store n n Q 3 [(4, .int (nI i)), (0, .ref 95), (1, .ref 103), (2, .int (nI 17)), (3, .int (nI k))] [] (m_row I 103 (stF (I 104) (I 103) (17 * k) i)) J R n := by
  intro m
  induction m with
  | zero =>
    intro i hi
    obtain rfl : i = 17 := by omega
    refine a_iload 0 dM_store_3 rfl ?_
    refine a_iload_n 3 dM_store_5 rfl rfl ?_
    refine a_icmp_geN (tgt := 30) dM_store_6 (by decide) (by omega) (by omega) (fun _ => ?_) (fun c => False.elim (by omega))
    exact hx
  | succ m ih =>
    intro i hi
    refine a_iload 0 dM_store_3 rfl ?_
    refine a_iload_n 3 dM_store_5 rfl rfl ?_
    refine a_icmp_geN (tgt := 30) dM_store_6 (by decide) (by omega) (by omega) (fun c => False.elim (by omega)) (fun _ => ?_)
    refine a_aload_n 2 dM_store_9 rfl rfl ?_
    refine a_iload_n 3 dM_store_10 rfl rfl ?_
    refine a_iload_n 4 dM_store_11 rfl rfl ?_
    refine a_imulN (a := 17) (b := k) dM_store_12 ?_
    refine a_iload 0 dM_store_13 rfl ?_
    refine a_iaddN (a := (17 * k)) (b := i) dM_store_15 ?_
    refine a_aload_n 1 dM_store_16 rfl rfl ?_
    refine a_geta (r := 104) dM_store_17 fl12_35 rfl ly_95 (by omega) (rf_95_18 hR) ?_
    refine a_iload 0 dM_store_20 rfl ?_
    refine a_ialdN (a := i) dM_store_22 ly_104 (by omega) (by omega) (by decide) ?_
    rw [show (m_row I 103 (stF (I 104) (I 103) (17 * k) i)) 104 i = I 104 i from rfl]
    refine a_iastN (a := ((17 * k) + i)) dM_store_23 ly_103 (by omega) (by omega) (by decide) ?_
    rw [show m_up (m_row I 103 (stF (I 104) (I 103) (17 * k) i)) 103 ((17 * k) + i) (I 104 i) = (m_row I 103 (va_up (stF (I 104) (I 103) (17 * k) i) ((17 * k) + i) (I 104 i))) from (by rw [m_up_r])]
    refine a_iincN (lv' := [(4, .int (nI (i + 1))), (0, .ref 95), (1, .ref 103), (2, .int (nI 17)), (3, .int (nI k))]) (j := 0) dM_store_24 rfl (by decide) rfl ?_
    refine a_goto (tgt := 3) dM_store_27 (by decide) ?_
    refine a_locs (lv' := [(4, .int (nI (i + 1))), (0, .ref 95), (1, .ref 103), (2, .int (nI 17)), (3, .int (nI k))]) [0, 1, 2, 3, 4] rfl ?_
    rw [stF_s]
    exact ih (i + 1) (by omega)
theorem c_store2 {S : Nat × (Nat → Int32)} {d n : Nat} {I : mI} {J : mJ} {R : mR} (hn : 122 ≤ n) (hR : m_fin R) {k : Nat} (hk : k < 2) : RUN S d YM_store [.ref 95, .ref 103, .int (nI 17), .int (nI k)] I J R n none (m_row I 103 (stF (I 104) (I 103) (17 * k) 17)) J R n := by
  show AW S _ YM_store n n _ 0 [(0, .ref 95), (1, .ref 103), (2, .int (nI 17)), (3, .int (nI k))] [] I J R n
  refine a_mem (show I = m_row I 103 (I 103) from (m_row_self).symm) ?_
  refine a_iconstN (a := 0) dM_store_0 (by decide) ?_
  refine a_istore (lv' := [(4, .int (nI 0)), (0, .ref 95), (1, .ref 103), (2, .int (nI 17)), (3, .int (nI k))]) dM_store_1 (by decide) rfl ?_
  refine a_locs (lv' := [(4, .int (nI 0)), (0, .ref 95), (1, .ref 103), (2, .int (nI 17)), (3, .int (nI k))]) [0, 1, 2, 3, 4] rfl ?_
  refine a_mem (show m_row I 103 (I 103) = (m_row I 103 (stF (I 104) (I 103) (17 * k) 0)) by rw [stF_0]) ?_
  refine l_store2 hn hR hk ?_ 17 0 rfl
  exact a_vret dM_store_30 rfl ⟨rfl, rfl, rfl, rfl⟩
