theorem vaUU {f : Nat → Int32} {k : Nat} {x y : Int32} : va_up (va_up f k x) k y = va_up f k y := by
  funext j; unfold va_up; by_cases h : j = k
  · rw [if_pos h, if_pos h]
  · rw [if_neg h, if_neg h, if_neg h]
theorem mR_in {I : mI} {F X Y Z : Nat → Int32} : m_row (m_row (m_row (m_row I 95 F) 97 X) 98 Y) 99 Z = mRd (m_row (m_row (m_row I 97 X) 98 Y) 99 Z) F (I 104) (I 105) := by
  funext a
  unfold mRd m_row
  by_cases h1 : a = 105
  · simp [h1]
  · by_cases h2 : a = 104
    · simp [h2]
    · by_cases h3 : a = 95
      · simp [h3]
      · simp [h1, h2, h3]
def txN (I : mI) (R : mR) (v f pl : Int32) (C : Nat → Int32) (cell : Nat) (X : Nat → Int32) (w : Option Value) (I' : mI) (_ : mJ) (R' : mR) : Prop :=
  w = some (.int v) ∧ R' = R ∧ I' 97 = va_up (I 97) 0 (nI 0) ∧ I' 98 = va_up (I 98) 0 f ∧ I' 99 = va_up (I 99) 0 pl ∧ I' 100 = C ∧ I' cell = X ∧ (∀ a, a < 95 ∨ a = 96 ∨ (100 < a ∧ a ≠ 104 ∧ a ≠ 105 ∧ a ≠ cell) → I' a = I a)
theorem q_M_textB {S : Nat × (Nat → Int32)} {d n : Nat} {I : mI} {J : mJ} {R : mR} (hn : 122 ≤ n) (hR : m_fin R) {len : Nat} (hlen : I 97 0 = nI len) (hl6 : len ≤ 600) (hby : byT (I 96) len) {x y : Int32} (h : f_in x (nI 0) (nI 2) = 0)  : AW S (d + 9) YM_text n n (txN I R (-2) (nI 0) (-1) (I 100) 101 (I 101)) 0 [(0, .ref 95), (1, .int x), (2, .int y)] [] I J R n := by
  refine a_mem (show I = (m_row (m_row (m_row (m_row I 95 (I 95)) 97 (I 97)) 98 (I 98)) 99 (I 99)) by rw [m_row_self, m_row_self, m_row_self, m_row_self]) ?_
  refine a_aload_n 0 dM_text_0 rfl rfl ?_
  refine a_iconstN (a := 0) dM_text_1 (by decide) ?_
  refine a_puti dM_text_2 fl12_90 rfl ly_95 (by omega) ?_
  rw [show m_up (m_row (m_row (m_row (m_row I 95 (I 95)) 97 (I 97)) 98 (I 98)) 99 (I 99)) 95 0 (nI 0) = (m_row (m_row (m_row (m_row I 95 (va_up (I 95) 0 (nI 0))) 97 (I 97)) 98 (I 98)) 99 (I 99)) from (by rw [m_up_comm (by decide), m_up_comm (by decide), m_up_comm (by decide), m_up_r])]
  refine a_aload_n 0 dM_text_5 rfl rfl ?_
  refine a_aload_n 0 dM_text_6 rfl rfl ?_
  refine a_geta (r := 97) dM_text_7 fl12_13 rfl ly_95 (by omega) (rf_95_2 hR) ?_
  refine a_iconstN (a := 0) dM_text_10 (by decide) ?_
  refine a_ialdN (a := 0) dM_text_11 ly_97 (by omega) (by omega) (by decide) ?_
  rw [show (m_row (m_row (m_row (m_row I 95 (va_up (I 95) 0 (nI 0))) 97 (I 97)) 98 (I 98)) 99 (I 99)) 97 0 = (nI len) from hlen]
  refine a_puti dM_text_12 fl12_113 rfl ly_95 (by omega) ?_
  rw [show m_up (m_row (m_row (m_row (m_row I 95 (va_up (I 95) 0 (nI 0))) 97 (I 97)) 98 (I 98)) 99 (I 99)) 95 10 (nI len) = (m_row (m_row (m_row (m_row I 95 (va_up (va_up (I 95) 0 (nI 0)) 10 (nI len))) 97 (I 97)) 98 (I 98)) 99 (I 99)) from (by rw [m_up_comm (by decide), m_up_comm (by decide), m_up_comm (by decide), m_up_r])]
  refine a_aload_n 0 dM_text_15 rfl rfl ?_
  refine a_geta (r := 97) dM_text_16 fl12_13 rfl ly_95 (by omega) (rf_95_2 hR) ?_
  refine a_iconstN (a := 0) dM_text_19 (by decide) ?_
  refine a_iconstN (a := 0) dM_text_20 (by decide) ?_
  refine a_iastN (a := 0) dM_text_21 ly_97 (by omega) (by omega) (by decide) ?_
  rw [show m_up (m_row (m_row (m_row (m_row I 95 (va_up (va_up (I 95) 0 (nI 0)) 10 (nI len))) 97 (I 97)) 98 (I 98)) 99 (I 99)) 97 0 (nI 0) = (m_row (m_row (m_row (m_row I 95 (va_up (va_up (I 95) 0 (nI 0)) 10 (nI len))) 97 (va_up (I 97) 0 (nI 0))) 98 (I 98)) 99 (I 99)) from (by rw [m_up_comm (by decide), m_up_comm (by decide), m_up_r])]
  refine a_aload_n 0 dM_text_22 rfl rfl ?_
  refine a_geta (r := 98) dM_text_23 fl12_17 rfl ly_95 (by omega) (rf_95_3 hR) ?_
  refine a_iconstN (a := 0) dM_text_26 (by decide) ?_
  refine a_iconstN (a := 0) dM_text_27 (by decide) ?_
  refine a_iastN (a := 0) dM_text_28 ly_98 (by omega) (by omega) (by decide) ?_
  rw [show m_up (m_row (m_row (m_row (m_row I 95 (va_up (va_up (I 95) 0 (nI 0)) 10 (nI len))) 97 (va_up (I 97) 0 (nI 0))) 98 (I 98)) 99 (I 99)) 98 0 (nI 0) = (m_row (m_row (m_row (m_row I 95 (va_up (va_up (I 95) 0 (nI 0)) 10 (nI len))) 97 (va_up (I 97) 0 (nI 0))) 98 (va_up (I 98) 0 (nI 0))) 99 (I 99)) from (by rw [m_up_comm (by decide), m_up_r])]
  refine a_aload_n 0 dM_text_29 rfl rfl ?_
  refine a_geta (r := 99) dM_text_30 fl12_20 rfl ly_95 (by omega) (rf_95_4 hR) ?_
  refine a_iconstN (a := 0) dM_text_33 (by decide) ?_
  refine a_iconst (v := -1) dM_text_34 (by decide) ?_
  refine a_iastN (a := 0) dM_text_35 ly_99 (by omega) (by omega) (by decide) ?_
  rw [show m_up (m_row (m_row (m_row (m_row I 95 (va_up (va_up (I 95) 0 (nI 0)) 10 (nI len))) 97 (va_up (I 97) 0 (nI 0))) 98 (va_up (I 98) 0 (nI 0))) 99 (I 99)) 99 0 (-1) = (m_row (m_row (m_row (m_row I 95 (va_up (va_up (I 95) 0 (nI 0)) 10 (nI len))) 97 (va_up (I 97) 0 (nI 0))) 98 (va_up (I 98) 0 (nI 0))) 99 (va_up (I 99) 0 (-1))) from (by rw [m_up_r])]
  refine a_iload_n 1 dM_text_36 rfl rfl ?_
  refine a_iconstN (a := 0) dM_text_37 (by decide) ?_
  refine a_iconstN (a := 2) dM_text_38 (by decide) ?_
  refine a_callS (Q' := m_res (some (.int 0)) (m_row (m_row (m_row (m_row I 95 (va_up (va_up (I 95) 0 (nI 0)) 10 (nI len))) 97 (va_up (I 97) 0 (nI 0))) 98 (va_up (I 98) 0 (nI 0))) 99 (va_up (I 99) 0 (-1))) J R) (as := [.int x, .int (nI 0), .int (nI 2)]) (st := []) dM_text_39 ml12_102 rfl (Nat.le_of_ble_eq_true rfl) (Nat.le_of_ble_eq_true rfl) rfl (Nat.le_refl _) (Nat.le_refl _) (c_M_inE h) (m_go ?_)
  show AW _ _ _ _ _ _ _ _ [.int 0] _ _ _ _
  refine a_if_eq (tgt := 72) dM_text_42 (by decide) (fun _ => ?_) (fun c => False.elim (c rfl))
  refine a_bipush (v := -2) dM_text_72 (by decide) ?_
  exact a_iret dM_text_74 rfl ⟨rfl, rfl, rfl, rfl, rfl, rfl, rfl, fun a ha => (m_row_ne (by omega)).trans ((m_row_ne (by omega)).trans ((m_row_ne (by omega)).trans (m_row_ne (by omega))))⟩
theorem q_M_text0nX {S : Nat × (Nat → Int32)} {d n : Nat} {I : mI} {J : mJ} {R : mR} (hn : 122 ≤ n) (hR : m_fin R) {len : Nat} (hlen : I 97 0 = nI len) (hl6 : len ≤ 600) (hby : byT (I 96) len) (h : I 100 0 = nI 2)  : AW S (d + 9) YM_text n n (txN I R (-2) (nI 0) (-1) (I 100) 101 (I 101)) 0 [(0, .ref 95), (1, .int (nI 0)), (2, .int (-1))] [] I J R n := by
  refine a_mem (show I = (m_row (m_row (m_row (m_row I 95 (I 95)) 97 (I 97)) 98 (I 98)) 99 (I 99)) by rw [m_row_self, m_row_self, m_row_self, m_row_self]) ?_
  refine a_aload_n 0 dM_text_0 rfl rfl ?_
  refine a_iconstN (a := 0) dM_text_1 (by decide) ?_
  refine a_puti dM_text_2 fl12_90 rfl ly_95 (by omega) ?_
  rw [show m_up (m_row (m_row (m_row (m_row I 95 (I 95)) 97 (I 97)) 98 (I 98)) 99 (I 99)) 95 0 (nI 0) = (m_row (m_row (m_row (m_row I 95 (va_up (I 95) 0 (nI 0))) 97 (I 97)) 98 (I 98)) 99 (I 99)) from (by rw [m_up_comm (by decide), m_up_comm (by decide), m_up_comm (by decide), m_up_r])]
  refine a_aload_n 0 dM_text_5 rfl rfl ?_
  refine a_aload_n 0 dM_text_6 rfl rfl ?_
  refine a_geta (r := 97) dM_text_7 fl12_13 rfl ly_95 (by omega) (rf_95_2 hR) ?_
  refine a_iconstN (a := 0) dM_text_10 (by decide) ?_
  refine a_ialdN (a := 0) dM_text_11 ly_97 (by omega) (by omega) (by decide) ?_
  rw [show (m_row (m_row (m_row (m_row I 95 (va_up (I 95) 0 (nI 0))) 97 (I 97)) 98 (I 98)) 99 (I 99)) 97 0 = (nI len) from hlen]
  refine a_puti dM_text_12 fl12_113 rfl ly_95 (by omega) ?_
  rw [show m_up (m_row (m_row (m_row (m_row I 95 (va_up (I 95) 0 (nI 0))) 97 (I 97)) 98 (I 98)) 99 (I 99)) 95 10 (nI len) = (m_row (m_row (m_row (m_row I 95 (va_up (va_up (I 95) 0 (nI 0)) 10 (nI len))) 97 (I 97)) 98 (I 98)) 99 (I 99)) from (by rw [m_up_comm (by decide), m_up_comm (by decide), m_up_comm (by decide), m_up_r])]
  refine a_aload_n 0 dM_text_15 rfl rfl ?_
  refine a_geta (r := 97) dM_text_16 fl12_13 rfl ly_95 (by omega) (rf_95_2 hR) ?_
  refine a_iconstN (a := 0) dM_text_19 (by decide) ?_
  refine a_iconstN (a := 0) dM_text_20 (by decide) ?_
  refine a_iastN (a := 0) dM_text_21 ly_97 (by omega) (by omega) (by decide) ?_
  rw [show m_up (m_row (m_row (m_row (m_row I 95 (va_up (va_up (I 95) 0 (nI 0)) 10 (nI len))) 97 (I 97)) 98 (I 98)) 99 (I 99)) 97 0 (nI 0) = (m_row (m_row (m_row (m_row I 95 (va_up (va_up (I 95) 0 (nI 0)) 10 (nI len))) 97 (va_up (I 97) 0 (nI 0))) 98 (I 98)) 99 (I 99)) from (by rw [m_up_comm (by decide), m_up_comm (by decide), m_up_r])]
  refine a_aload_n 0 dM_text_22 rfl rfl ?_
  refine a_geta (r := 98) dM_text_23 fl12_17 rfl ly_95 (by omega) (rf_95_3 hR) ?_
  refine a_iconstN (a := 0) dM_text_26 (by decide) ?_
  refine a_iconstN (a := 0) dM_text_27 (by decide) ?_
  refine a_iastN (a := 0) dM_text_28 ly_98 (by omega) (by omega) (by decide) ?_
  rw [show m_up (m_row (m_row (m_row (m_row I 95 (va_up (va_up (I 95) 0 (nI 0)) 10 (nI len))) 97 (va_up (I 97) 0 (nI 0))) 98 (I 98)) 99 (I 99)) 98 0 (nI 0) = (m_row (m_row (m_row (m_row I 95 (va_up (va_up (I 95) 0 (nI 0)) 10 (nI len))) 97 (va_up (I 97) 0 (nI 0))) 98 (va_up (I 98) 0 (nI 0))) 99 (I 99)) from (by rw [m_up_comm (by decide), m_up_r])]
  refine a_aload_n 0 dM_text_29 rfl rfl ?_
  refine a_geta (r := 99) dM_text_30 fl12_20 rfl ly_95 (by omega) (rf_95_4 hR) ?_
  refine a_iconstN (a := 0) dM_text_33 (by decide) ?_
  refine a_iconst (v := -1) dM_text_34 (by decide) ?_
  refine a_iastN (a := 0) dM_text_35 ly_99 (by omega) (by omega) (by decide) ?_
  rw [show m_up (m_row (m_row (m_row (m_row I 95 (va_up (va_up (I 95) 0 (nI 0)) 10 (nI len))) 97 (va_up (I 97) 0 (nI 0))) 98 (va_up (I 98) 0 (nI 0))) 99 (I 99)) 99 0 (-1) = (m_row (m_row (m_row (m_row I 95 (va_up (va_up (I 95) 0 (nI 0)) 10 (nI len))) 97 (va_up (I 97) 0 (nI 0))) 98 (va_up (I 98) 0 (nI 0))) 99 (va_up (I 99) 0 (-1))) from (by rw [m_up_r])]
  refine a_iload_n 1 dM_text_36 rfl rfl ?_
  refine a_iconstN (a := 0) dM_text_37 (by decide) ?_
  refine a_iconstN (a := 2) dM_text_38 (by decide) ?_
  refine a_callS (Q' := m_res (some (.int 1)) (m_row (m_row (m_row (m_row I 95 (va_up (va_up (I 95) 0 (nI 0)) 10 (nI len))) 97 (va_up (I 97) 0 (nI 0))) 98 (va_up (I 98) 0 (nI 0))) 99 (va_up (I 99) 0 (-1))) J R) (as := [.int (nI 0), .int (nI 0), .int (nI 2)]) (st := []) dM_text_39 ml12_102 rfl (Nat.le_of_ble_eq_true rfl) (Nat.le_of_ble_eq_true rfl) rfl (Nat.le_refl _) (Nat.le_refl _) (c_M_inE (f_in_n (by decide) (by decide) (by decide))) (m_go ?_)
  show AW _ _ _ _ _ _ _ _ [.int 1] _ _ _ _
  refine a_if_eq (tgt := 72) dM_text_42 (by decide) (fun c => False.elim (absurd c (by decide))) (fun _ => ?_)
  refine a_iload_n 2 dM_text_45 rfl rfl ?_
  refine a_iconst (v := -1) dM_text_46 (by decide) ?_
  refine a_icmp_ne (tgt := 63) dM_text_47 (by decide) (fun c => False.elim (c rfl)) (fun _ => ?_)
  refine a_aload_n 0 dM_text_50 rfl rfl ?_
  refine a_geta (r := 100) dM_text_51 fl12_23 rfl ly_95 (by omega) (rf_95_5 hR) ?_
  refine a_iload_n 1 dM_text_54 rfl rfl ?_
  refine a_ialdN (a := 0) dM_text_55 ly_100 (by omega) (by omega) (by decide) ?_
  rw [show (m_row (m_row (m_row (m_row I 95 (va_up (va_up (I 95) 0 (nI 0)) 10 (nI len))) 97 (va_up (I 97) 0 (nI 0))) 98 (va_up (I 98) 0 (nI 0))) 99 (va_up (I 99) 0 (-1))) 100 0 = I 100 0 from rfl]
  refine a_iconstN (a := 2) dM_text_56 (by decide) ?_
  refine a_icmp_ne (tgt := 75) dM_text_57 (by decide) (fun c => False.elim (c h)) (fun _ => ?_)
  refine a_goto (tgt := 72) dM_text_60 (by decide) ?_
  refine a_bipush (v := -2) dM_text_72 (by decide) ?_
  exact a_iret dM_text_74 rfl ⟨rfl, rfl, rfl, rfl, rfl, rfl, rfl, fun a ha => (m_row_ne (by omega)).trans ((m_row_ne (by omega)).trans ((m_row_ne (by omega)).trans (m_row_ne (by omega))))⟩
theorem q_M_text0oX {S : Nat × (Nat → Int32)} {d n : Nat} {I : mI} {J : mJ} {R : mR} (hn : 122 ≤ n) (hR : m_fin R) {len : Nat} (hlen : I 97 0 = nI len) (hl6 : len ≤ 600) (hby : byT (I 96) len) {y : Int32} (hy : ¬ y = -1) (h : f_in y 0 (I 100 0 - 1) = 0)  : AW S (d + 9) YM_text n n (txN I R (-2) (nI 0) (-1) (I 100) 101 (I 101)) 0 [(0, .ref 95), (1, .int (nI 0)), (2, .int y)] [] I J R n := by
  refine a_mem (show I = (m_row (m_row (m_row (m_row I 95 (I 95)) 97 (I 97)) 98 (I 98)) 99 (I 99)) by rw [m_row_self, m_row_self, m_row_self, m_row_self]) ?_
  refine a_aload_n 0 dM_text_0 rfl rfl ?_
  refine a_iconstN (a := 0) dM_text_1 (by decide) ?_
  refine a_puti dM_text_2 fl12_90 rfl ly_95 (by omega) ?_
  rw [show m_up (m_row (m_row (m_row (m_row I 95 (I 95)) 97 (I 97)) 98 (I 98)) 99 (I 99)) 95 0 (nI 0) = (m_row (m_row (m_row (m_row I 95 (va_up (I 95) 0 (nI 0))) 97 (I 97)) 98 (I 98)) 99 (I 99)) from (by rw [m_up_comm (by decide), m_up_comm (by decide), m_up_comm (by decide), m_up_r])]
  refine a_aload_n 0 dM_text_5 rfl rfl ?_
  refine a_aload_n 0 dM_text_6 rfl rfl ?_
  refine a_geta (r := 97) dM_text_7 fl12_13 rfl ly_95 (by omega) (rf_95_2 hR) ?_
  refine a_iconstN (a := 0) dM_text_10 (by decide) ?_
  refine a_ialdN (a := 0) dM_text_11 ly_97 (by omega) (by omega) (by decide) ?_
  rw [show (m_row (m_row (m_row (m_row I 95 (va_up (I 95) 0 (nI 0))) 97 (I 97)) 98 (I 98)) 99 (I 99)) 97 0 = (nI len) from hlen]
  refine a_puti dM_text_12 fl12_113 rfl ly_95 (by omega) ?_
  rw [show m_up (m_row (m_row (m_row (m_row I 95 (va_up (I 95) 0 (nI 0))) 97 (I 97)) 98 (I 98)) 99 (I 99)) 95 10 (nI len) = (m_row (m_row (m_row (m_row I 95 (va_up (va_up (I 95) 0 (nI 0)) 10 (nI len))) 97 (I 97)) 98 (I 98)) 99 (I 99)) from (by rw [m_up_comm (by decide), m_up_comm (by decide), m_up_comm (by decide), m_up_r])]
  refine a_aload_n 0 dM_text_15 rfl rfl ?_
  refine a_geta (r := 97) dM_text_16 fl12_13 rfl ly_95 (by omega) (rf_95_2 hR) ?_
  refine a_iconstN (a := 0) dM_text_19 (by decide) ?_
  refine a_iconstN (a := 0) dM_text_20 (by decide) ?_
  refine a_iastN (a := 0) dM_text_21 ly_97 (by omega) (by omega) (by decide) ?_
  rw [show m_up (m_row (m_row (m_row (m_row I 95 (va_up (va_up (I 95) 0 (nI 0)) 10 (nI len))) 97 (I 97)) 98 (I 98)) 99 (I 99)) 97 0 (nI 0) = (m_row (m_row (m_row (m_row I 95 (va_up (va_up (I 95) 0 (nI 0)) 10 (nI len))) 97 (va_up (I 97) 0 (nI 0))) 98 (I 98)) 99 (I 99)) from (by rw [m_up_comm (by decide), m_up_comm (by decide), m_up_r])]
  refine a_aload_n 0 dM_text_22 rfl rfl ?_
  refine a_geta (r := 98) dM_text_23 fl12_17 rfl ly_95 (by omega) (rf_95_3 hR) ?_
  refine a_iconstN (a := 0) dM_text_26 (by decide) ?_
  refine a_iconstN (a := 0) dM_text_27 (by decide) ?_
  refine a_iastN (a := 0) dM_text_28 ly_98 (by omega) (by omega) (by decide) ?_
  rw [show m_up (m_row (m_row (m_row (m_row I 95 (va_up (va_up (I 95) 0 (nI 0)) 10 (nI len))) 97 (va_up (I 97) 0 (nI 0))) 98 (I 98)) 99 (I 99)) 98 0 (nI 0) = (m_row (m_row (m_row (m_row I 95 (va_up (va_up (I 95) 0 (nI 0)) 10 (nI len))) 97 (va_up (I 97) 0 (nI 0))) 98 (va_up (I 98) 0 (nI 0))) 99 (I 99)) from (by rw [m_up_comm (by decide), m_up_r])]
  refine a_aload_n 0 dM_text_29 rfl rfl ?_
  refine a_geta (r := 99) dM_text_30 fl12_20 rfl ly_95 (by omega) (rf_95_4 hR) ?_
  refine a_iconstN (a := 0) dM_text_33 (by decide) ?_
  refine a_iconst (v := -1) dM_text_34 (by decide) ?_
  refine a_iastN (a := 0) dM_text_35 ly_99 (by omega) (by omega) (by decide) ?_
  rw [show m_up (m_row (m_row (m_row (m_row I 95 (va_up (va_up (I 95) 0 (nI 0)) 10 (nI len))) 97 (va_up (I 97) 0 (nI 0))) 98 (va_up (I 98) 0 (nI 0))) 99 (I 99)) 99 0 (-1) = (m_row (m_row (m_row (m_row I 95 (va_up (va_up (I 95) 0 (nI 0)) 10 (nI len))) 97 (va_up (I 97) 0 (nI 0))) 98 (va_up (I 98) 0 (nI 0))) 99 (va_up (I 99) 0 (-1))) from (by rw [m_up_r])]
  refine a_iload_n 1 dM_text_36 rfl rfl ?_
  refine a_iconstN (a := 0) dM_text_37 (by decide) ?_
  refine a_iconstN (a := 2) dM_text_38 (by decide) ?_
  refine a_callS (Q' := m_res (some (.int 1)) (m_row (m_row (m_row (m_row I 95 (va_up (va_up (I 95) 0 (nI 0)) 10 (nI len))) 97 (va_up (I 97) 0 (nI 0))) 98 (va_up (I 98) 0 (nI 0))) 99 (va_up (I 99) 0 (-1))) J R) (as := [.int (nI 0), .int (nI 0), .int (nI 2)]) (st := []) dM_text_39 ml12_102 rfl (Nat.le_of_ble_eq_true rfl) (Nat.le_of_ble_eq_true rfl) rfl (Nat.le_refl _) (Nat.le_refl _) (c_M_inE (f_in_n (by decide) (by decide) (by decide))) (m_go ?_)
  show AW _ _ _ _ _ _ _ _ [.int 1] _ _ _ _
  refine a_if_eq (tgt := 72) dM_text_42 (by decide) (fun c => False.elim (absurd c (by decide))) (fun _ => ?_)
  refine a_iload_n 2 dM_text_45 rfl rfl ?_
  refine a_iconst (v := -1) dM_text_46 (by decide) ?_
  refine a_icmp_ne (tgt := 63) dM_text_47 (by decide) (fun _ => ?_) (fun c => False.elim (hy c))
  refine a_aload_n 0 dM_text_63 rfl rfl ?_
  refine a_iload_n 1 dM_text_64 rfl rfl ?_
  refine a_iload_n 2 dM_text_65 rfl rfl ?_
  refine a_callV (Q' := m_res (some (.int 0)) (m_row (m_row (m_row (m_row I 95 (va_up (va_up (I 95) 0 (nI 0)) 10 (nI len))) 97 (va_up (I 97) 0 (nI 0))) 98 (va_up (I 98) 0 (nI 0))) 99 (va_up (I 99) 0 (-1))) J R) (as := [.int (nI 0), .int y]) (st := []) dM_text_66 ml12_242 rfl (Nat.le_of_ble_eq_true rfl) ly_95 rfl rfl (by decide) (by omega) (Nat.le_of_ble_eq_true rfl) rfl (Nat.le_refl _) (Nat.le_refl _) (by have q := c_M_is (S := S) (d := d + 7) (n := n) (I := (m_row (m_row (m_row (m_row I 95 (va_up (va_up (I 95) 0 (nI 0)) 10 (nI len))) 97 (va_up (I 97) 0 (nI 0))) 98 (va_up (I 98) 0 (nI 0))) 99 (va_up (I 99) 0 (-1)))) (J := J) (R := R) (s := 0) (k := y) hn hR (by decide); rw [show (m_row (m_row (m_row (m_row I 95 (va_up (va_up (I 95) 0 (nI 0)) 10 (nI len))) 97 (va_up (I 97) 0 (nI 0))) 98 (va_up (I 98) 0 (nI 0))) 99 (va_up (I 99) 0 (-1))) 100 0 = I 100 0 from rfl, h] at q; exact q) (m_go ?_)
  show AW _ _ _ _ _ _ _ _ [.int 0] _ _ _ _
  refine a_if_ne (tgt := 75) dM_text_69 (by decide) (fun c => False.elim (c rfl)) (fun _ => ?_)
  refine a_bipush (v := -2) dM_text_72 (by decide) ?_
  exact a_iret dM_text_74 rfl ⟨rfl, rfl, rfl, rfl, rfl, rfl, rfl, fun a ha => (m_row_ne (by omega)).trans ((m_row_ne (by omega)).trans ((m_row_ne (by omega)).trans (m_row_ne (by omega))))⟩
theorem q_M_text1nX {S : Nat × (Nat → Int32)} {d n : Nat} {I : mI} {J : mJ} {R : mR} (hn : 122 ≤ n) (hR : m_fin R) {len : Nat} (hlen : I 97 0 = nI len) (hl6 : len ≤ 600) (hby : byT (I 96) len) (h : I 100 1 = nI 2)  : AW S (d + 9) YM_text n n (txN I R (-2) (nI 0) (-1) (I 100) 101 (I 101)) 0 [(0, .ref 95), (1, .int (nI 1)), (2, .int (-1))] [] I J R n := by
  refine a_mem (show I = (m_row (m_row (m_row (m_row I 95 (I 95)) 97 (I 97)) 98 (I 98)) 99 (I 99)) by rw [m_row_self, m_row_self, m_row_self, m_row_self]) ?_
  refine a_aload_n 0 dM_text_0 rfl rfl ?_
  refine a_iconstN (a := 0) dM_text_1 (by decide) ?_
  refine a_puti dM_text_2 fl12_90 rfl ly_95 (by omega) ?_
  rw [show m_up (m_row (m_row (m_row (m_row I 95 (I 95)) 97 (I 97)) 98 (I 98)) 99 (I 99)) 95 0 (nI 0) = (m_row (m_row (m_row (m_row I 95 (va_up (I 95) 0 (nI 0))) 97 (I 97)) 98 (I 98)) 99 (I 99)) from (by rw [m_up_comm (by decide), m_up_comm (by decide), m_up_comm (by decide), m_up_r])]
  refine a_aload_n 0 dM_text_5 rfl rfl ?_
  refine a_aload_n 0 dM_text_6 rfl rfl ?_
  refine a_geta (r := 97) dM_text_7 fl12_13 rfl ly_95 (by omega) (rf_95_2 hR) ?_
  refine a_iconstN (a := 0) dM_text_10 (by decide) ?_
  refine a_ialdN (a := 0) dM_text_11 ly_97 (by omega) (by omega) (by decide) ?_
  rw [show (m_row (m_row (m_row (m_row I 95 (va_up (I 95) 0 (nI 0))) 97 (I 97)) 98 (I 98)) 99 (I 99)) 97 0 = (nI len) from hlen]
  refine a_puti dM_text_12 fl12_113 rfl ly_95 (by omega) ?_
  rw [show m_up (m_row (m_row (m_row (m_row I 95 (va_up (I 95) 0 (nI 0))) 97 (I 97)) 98 (I 98)) 99 (I 99)) 95 10 (nI len) = (m_row (m_row (m_row (m_row I 95 (va_up (va_up (I 95) 0 (nI 0)) 10 (nI len))) 97 (I 97)) 98 (I 98)) 99 (I 99)) from (by rw [m_up_comm (by decide), m_up_comm (by decide), m_up_comm (by decide), m_up_r])]
  refine a_aload_n 0 dM_text_15 rfl rfl ?_
  refine a_geta (r := 97) dM_text_16 fl12_13 rfl ly_95 (by omega) (rf_95_2 hR) ?_
  refine a_iconstN (a := 0) dM_text_19 (by decide) ?_
  refine a_iconstN (a := 0) dM_text_20 (by decide) ?_
  refine a_iastN (a := 0) dM_text_21 ly_97 (by omega) (by omega) (by decide) ?_
  rw [show m_up (m_row (m_row (m_row (m_row I 95 (va_up (va_up (I 95) 0 (nI 0)) 10 (nI len))) 97 (I 97)) 98 (I 98)) 99 (I 99)) 97 0 (nI 0) = (m_row (m_row (m_row (m_row I 95 (va_up (va_up (I 95) 0 (nI 0)) 10 (nI len))) 97 (va_up (I 97) 0 (nI 0))) 98 (I 98)) 99 (I 99)) from (by rw [m_up_comm (by decide), m_up_comm (by decide), m_up_r])]
  refine a_aload_n 0 dM_text_22 rfl rfl ?_
  refine a_geta (r := 98) dM_text_23 fl12_17 rfl ly_95 (by omega) (rf_95_3 hR) ?_
  refine a_iconstN (a := 0) dM_text_26 (by decide) ?_
  refine a_iconstN (a := 0) dM_text_27 (by decide) ?_
  refine a_iastN (a := 0) dM_text_28 ly_98 (by omega) (by omega) (by decide) ?_
  rw [show m_up (m_row (m_row (m_row (m_row I 95 (va_up (va_up (I 95) 0 (nI 0)) 10 (nI len))) 97 (va_up (I 97) 0 (nI 0))) 98 (I 98)) 99 (I 99)) 98 0 (nI 0) = (m_row (m_row (m_row (m_row I 95 (va_up (va_up (I 95) 0 (nI 0)) 10 (nI len))) 97 (va_up (I 97) 0 (nI 0))) 98 (va_up (I 98) 0 (nI 0))) 99 (I 99)) from (by rw [m_up_comm (by decide), m_up_r])]
  refine a_aload_n 0 dM_text_29 rfl rfl ?_
  refine a_geta (r := 99) dM_text_30 fl12_20 rfl ly_95 (by omega) (rf_95_4 hR) ?_
  refine a_iconstN (a := 0) dM_text_33 (by decide) ?_
  refine a_iconst (v := -1) dM_text_34 (by decide) ?_
  refine a_iastN (a := 0) dM_text_35 ly_99 (by omega) (by omega) (by decide) ?_
  rw [show m_up (m_row (m_row (m_row (m_row I 95 (va_up (va_up (I 95) 0 (nI 0)) 10 (nI len))) 97 (va_up (I 97) 0 (nI 0))) 98 (va_up (I 98) 0 (nI 0))) 99 (I 99)) 99 0 (-1) = (m_row (m_row (m_row (m_row I 95 (va_up (va_up (I 95) 0 (nI 0)) 10 (nI len))) 97 (va_up (I 97) 0 (nI 0))) 98 (va_up (I 98) 0 (nI 0))) 99 (va_up (I 99) 0 (-1))) from (by rw [m_up_r])]
  refine a_iload_n 1 dM_text_36 rfl rfl ?_
  refine a_iconstN (a := 0) dM_text_37 (by decide) ?_
  refine a_iconstN (a := 2) dM_text_38 (by decide) ?_
  refine a_callS (Q' := m_res (some (.int 1)) (m_row (m_row (m_row (m_row I 95 (va_up (va_up (I 95) 0 (nI 0)) 10 (nI len))) 97 (va_up (I 97) 0 (nI 0))) 98 (va_up (I 98) 0 (nI 0))) 99 (va_up (I 99) 0 (-1))) J R) (as := [.int (nI 1), .int (nI 0), .int (nI 2)]) (st := []) dM_text_39 ml12_102 rfl (Nat.le_of_ble_eq_true rfl) (Nat.le_of_ble_eq_true rfl) rfl (Nat.le_refl _) (Nat.le_refl _) (c_M_inE (f_in_n (by decide) (by decide) (by decide))) (m_go ?_)
  show AW _ _ _ _ _ _ _ _ [.int 1] _ _ _ _
  refine a_if_eq (tgt := 72) dM_text_42 (by decide) (fun c => False.elim (absurd c (by decide))) (fun _ => ?_)
  refine a_iload_n 2 dM_text_45 rfl rfl ?_
  refine a_iconst (v := -1) dM_text_46 (by decide) ?_
  refine a_icmp_ne (tgt := 63) dM_text_47 (by decide) (fun c => False.elim (c rfl)) (fun _ => ?_)
  refine a_aload_n 0 dM_text_50 rfl rfl ?_
  refine a_geta (r := 100) dM_text_51 fl12_23 rfl ly_95 (by omega) (rf_95_5 hR) ?_
  refine a_iload_n 1 dM_text_54 rfl rfl ?_
  refine a_ialdN (a := 1) dM_text_55 ly_100 (by omega) (by omega) (by decide) ?_
  rw [show (m_row (m_row (m_row (m_row I 95 (va_up (va_up (I 95) 0 (nI 0)) 10 (nI len))) 97 (va_up (I 97) 0 (nI 0))) 98 (va_up (I 98) 0 (nI 0))) 99 (va_up (I 99) 0 (-1))) 100 1 = I 100 1 from rfl]
  refine a_iconstN (a := 2) dM_text_56 (by decide) ?_
  refine a_icmp_ne (tgt := 75) dM_text_57 (by decide) (fun c => False.elim (c h)) (fun _ => ?_)
  refine a_goto (tgt := 72) dM_text_60 (by decide) ?_
  refine a_bipush (v := -2) dM_text_72 (by decide) ?_
  exact a_iret dM_text_74 rfl ⟨rfl, rfl, rfl, rfl, rfl, rfl, rfl, fun a ha => (m_row_ne (by omega)).trans ((m_row_ne (by omega)).trans ((m_row_ne (by omega)).trans (m_row_ne (by omega))))⟩
theorem q_M_text1oX {S : Nat × (Nat → Int32)} {d n : Nat} {I : mI} {J : mJ} {R : mR} (hn : 122 ≤ n) (hR : m_fin R) {len : Nat} (hlen : I 97 0 = nI len) (hl6 : len ≤ 600) (hby : byT (I 96) len) {y : Int32} (hy : ¬ y = -1) (h : f_in y 0 (I 100 1 - 1) = 0)  : AW S (d + 9) YM_text n n (txN I R (-2) (nI 0) (-1) (I 100) 101 (I 101)) 0 [(0, .ref 95), (1, .int (nI 1)), (2, .int y)] [] I J R n := by
  refine a_mem (show I = (m_row (m_row (m_row (m_row I 95 (I 95)) 97 (I 97)) 98 (I 98)) 99 (I 99)) by rw [m_row_self, m_row_self, m_row_self, m_row_self]) ?_
  refine a_aload_n 0 dM_text_0 rfl rfl ?_
  refine a_iconstN (a := 0) dM_text_1 (by decide) ?_
  refine a_puti dM_text_2 fl12_90 rfl ly_95 (by omega) ?_
  rw [show m_up (m_row (m_row (m_row (m_row I 95 (I 95)) 97 (I 97)) 98 (I 98)) 99 (I 99)) 95 0 (nI 0) = (m_row (m_row (m_row (m_row I 95 (va_up (I 95) 0 (nI 0))) 97 (I 97)) 98 (I 98)) 99 (I 99)) from (by rw [m_up_comm (by decide), m_up_comm (by decide), m_up_comm (by decide), m_up_r])]
  refine a_aload_n 0 dM_text_5 rfl rfl ?_
  refine a_aload_n 0 dM_text_6 rfl rfl ?_
  refine a_geta (r := 97) dM_text_7 fl12_13 rfl ly_95 (by omega) (rf_95_2 hR) ?_
  refine a_iconstN (a := 0) dM_text_10 (by decide) ?_
  refine a_ialdN (a := 0) dM_text_11 ly_97 (by omega) (by omega) (by decide) ?_
  rw [show (m_row (m_row (m_row (m_row I 95 (va_up (I 95) 0 (nI 0))) 97 (I 97)) 98 (I 98)) 99 (I 99)) 97 0 = (nI len) from hlen]
  refine a_puti dM_text_12 fl12_113 rfl ly_95 (by omega) ?_
  rw [show m_up (m_row (m_row (m_row (m_row I 95 (va_up (I 95) 0 (nI 0))) 97 (I 97)) 98 (I 98)) 99 (I 99)) 95 10 (nI len) = (m_row (m_row (m_row (m_row I 95 (va_up (va_up (I 95) 0 (nI 0)) 10 (nI len))) 97 (I 97)) 98 (I 98)) 99 (I 99)) from (by rw [m_up_comm (by decide), m_up_comm (by decide), m_up_comm (by decide), m_up_r])]
  refine a_aload_n 0 dM_text_15 rfl rfl ?_
  refine a_geta (r := 97) dM_text_16 fl12_13 rfl ly_95 (by omega) (rf_95_2 hR) ?_
  refine a_iconstN (a := 0) dM_text_19 (by decide) ?_
  refine a_iconstN (a := 0) dM_text_20 (by decide) ?_
  refine a_iastN (a := 0) dM_text_21 ly_97 (by omega) (by omega) (by decide) ?_
  rw [show m_up (m_row (m_row (m_row (m_row I 95 (va_up (va_up (I 95) 0 (nI 0)) 10 (nI len))) 97 (I 97)) 98 (I 98)) 99 (I 99)) 97 0 (nI 0) = (m_row (m_row (m_row (m_row I 95 (va_up (va_up (I 95) 0 (nI 0)) 10 (nI len))) 97 (va_up (I 97) 0 (nI 0))) 98 (I 98)) 99 (I 99)) from (by rw [m_up_comm (by decide), m_up_comm (by decide), m_up_r])]
  refine a_aload_n 0 dM_text_22 rfl rfl ?_
  refine a_geta (r := 98) dM_text_23 fl12_17 rfl ly_95 (by omega) (rf_95_3 hR) ?_
  refine a_iconstN (a := 0) dM_text_26 (by decide) ?_
  refine a_iconstN (a := 0) dM_text_27 (by decide) ?_
  refine a_iastN (a := 0) dM_text_28 ly_98 (by omega) (by omega) (by decide) ?_
  rw [show m_up (m_row (m_row (m_row (m_row I 95 (va_up (va_up (I 95) 0 (nI 0)) 10 (nI len))) 97 (va_up (I 97) 0 (nI 0))) 98 (I 98)) 99 (I 99)) 98 0 (nI 0) = (m_row (m_row (m_row (m_row I 95 (va_up (va_up (I 95) 0 (nI 0)) 10 (nI len))) 97 (va_up (I 97) 0 (nI 0))) 98 (va_up (I 98) 0 (nI 0))) 99 (I 99)) from (by rw [m_up_comm (by decide), m_up_r])]
  refine a_aload_n 0 dM_text_29 rfl rfl ?_
  refine a_geta (r := 99) dM_text_30 fl12_20 rfl ly_95 (by omega) (rf_95_4 hR) ?_
  refine a_iconstN (a := 0) dM_text_33 (by decide) ?_
  refine a_iconst (v := -1) dM_text_34 (by decide) ?_
  refine a_iastN (a := 0) dM_text_35 ly_99 (by omega) (by omega) (by decide) ?_
  rw [show m_up (m_row (m_row (m_row (m_row I 95 (va_up (va_up (I 95) 0 (nI 0)) 10 (nI len))) 97 (va_up (I 97) 0 (nI 0))) 98 (va_up (I 98) 0 (nI 0))) 99 (I 99)) 99 0 (-1) = (m_row (m_row (m_row (m_row I 95 (va_up (va_up (I 95) 0 (nI 0)) 10 (nI len))) 97 (va_up (I 97) 0 (nI 0))) 98 (va_up (I 98) 0 (nI 0))) 99 (va_up (I 99) 0 (-1))) from (by rw [m_up_r])]
  refine a_iload_n 1 dM_text_36 rfl rfl ?_
  refine a_iconstN (a := 0) dM_text_37 (by decide) ?_
  refine a_iconstN (a := 2) dM_text_38 (by decide) ?_
  refine a_callS (Q' := m_res (some (.int 1)) (m_row (m_row (m_row (m_row I 95 (va_up (va_up (I 95) 0 (nI 0)) 10 (nI len))) 97 (va_up (I 97) 0 (nI 0))) 98 (va_up (I 98) 0 (nI 0))) 99 (va_up (I 99) 0 (-1))) J R) (as := [.int (nI 1), .int (nI 0), .int (nI 2)]) (st := []) dM_text_39 ml12_102 rfl (Nat.le_of_ble_eq_true rfl) (Nat.le_of_ble_eq_true rfl) rfl (Nat.le_refl _) (Nat.le_refl _) (c_M_inE (f_in_n (by decide) (by decide) (by decide))) (m_go ?_)
  show AW _ _ _ _ _ _ _ _ [.int 1] _ _ _ _
  refine a_if_eq (tgt := 72) dM_text_42 (by decide) (fun c => False.elim (absurd c (by decide))) (fun _ => ?_)
  refine a_iload_n 2 dM_text_45 rfl rfl ?_
  refine a_iconst (v := -1) dM_text_46 (by decide) ?_
  refine a_icmp_ne (tgt := 63) dM_text_47 (by decide) (fun _ => ?_) (fun c => False.elim (hy c))
  refine a_aload_n 0 dM_text_63 rfl rfl ?_
  refine a_iload_n 1 dM_text_64 rfl rfl ?_
  refine a_iload_n 2 dM_text_65 rfl rfl ?_
  refine a_callV (Q' := m_res (some (.int 0)) (m_row (m_row (m_row (m_row I 95 (va_up (va_up (I 95) 0 (nI 0)) 10 (nI len))) 97 (va_up (I 97) 0 (nI 0))) 98 (va_up (I 98) 0 (nI 0))) 99 (va_up (I 99) 0 (-1))) J R) (as := [.int (nI 1), .int y]) (st := []) dM_text_66 ml12_242 rfl (Nat.le_of_ble_eq_true rfl) ly_95 rfl rfl (by decide) (by omega) (Nat.le_of_ble_eq_true rfl) rfl (Nat.le_refl _) (Nat.le_refl _) (by have q := c_M_is (S := S) (d := d + 7) (n := n) (I := (m_row (m_row (m_row (m_row I 95 (va_up (va_up (I 95) 0 (nI 0)) 10 (nI len))) 97 (va_up (I 97) 0 (nI 0))) 98 (va_up (I 98) 0 (nI 0))) 99 (va_up (I 99) 0 (-1)))) (J := J) (R := R) (s := 1) (k := y) hn hR (by decide); rw [show (m_row (m_row (m_row (m_row I 95 (va_up (va_up (I 95) 0 (nI 0)) 10 (nI len))) 97 (va_up (I 97) 0 (nI 0))) 98 (va_up (I 98) 0 (nI 0))) 99 (va_up (I 99) 0 (-1))) 100 1 = I 100 1 from rfl, h] at q; exact q) (m_go ?_)
  show AW _ _ _ _ _ _ _ _ [.int 0] _ _ _ _
  refine a_if_ne (tgt := 75) dM_text_69 (by decide) (fun c => False.elim (c rfl)) (fun _ => ?_)
  refine a_bipush (v := -2) dM_text_72 (by decide) ?_
  exact a_iret dM_text_74 rfl ⟨rfl, rfl, rfl, rfl, rfl, rfl, rfl, fun a ha => (m_row_ne (by omega)).trans ((m_row_ne (by omega)).trans ((m_row_ne (by omega)).trans (m_row_ne (by omega))))⟩
theorem q_M_text2nX {S : Nat × (Nat → Int32)} {d n : Nat} {I : mI} {J : mJ} {R : mR} (hn : 122 ≤ n) (hR : m_fin R) {len : Nat} (hlen : I 97 0 = nI len) (hl6 : len ≤ 600) (hby : byT (I 96) len) (h : I 100 2 = nI 2)  : AW S (d + 9) YM_text n n (txN I R (-2) (nI 0) (-1) (I 100) 101 (I 101)) 0 [(0, .ref 95), (1, .int (nI 2)), (2, .int (-1))] [] I J R n := by
  refine a_mem (show I = (m_row (m_row (m_row (m_row I 95 (I 95)) 97 (I 97)) 98 (I 98)) 99 (I 99)) by rw [m_row_self, m_row_self, m_row_self, m_row_self]) ?_
  refine a_aload_n 0 dM_text_0 rfl rfl ?_
  refine a_iconstN (a := 0) dM_text_1 (by decide) ?_
  refine a_puti dM_text_2 fl12_90 rfl ly_95 (by omega) ?_
  rw [show m_up (m_row (m_row (m_row (m_row I 95 (I 95)) 97 (I 97)) 98 (I 98)) 99 (I 99)) 95 0 (nI 0) = (m_row (m_row (m_row (m_row I 95 (va_up (I 95) 0 (nI 0))) 97 (I 97)) 98 (I 98)) 99 (I 99)) from (by rw [m_up_comm (by decide), m_up_comm (by decide), m_up_comm (by decide), m_up_r])]
  refine a_aload_n 0 dM_text_5 rfl rfl ?_
  refine a_aload_n 0 dM_text_6 rfl rfl ?_
  refine a_geta (r := 97) dM_text_7 fl12_13 rfl ly_95 (by omega) (rf_95_2 hR) ?_
  refine a_iconstN (a := 0) dM_text_10 (by decide) ?_
  refine a_ialdN (a := 0) dM_text_11 ly_97 (by omega) (by omega) (by decide) ?_
  rw [show (m_row (m_row (m_row (m_row I 95 (va_up (I 95) 0 (nI 0))) 97 (I 97)) 98 (I 98)) 99 (I 99)) 97 0 = (nI len) from hlen]
  refine a_puti dM_text_12 fl12_113 rfl ly_95 (by omega) ?_
  rw [show m_up (m_row (m_row (m_row (m_row I 95 (va_up (I 95) 0 (nI 0))) 97 (I 97)) 98 (I 98)) 99 (I 99)) 95 10 (nI len) = (m_row (m_row (m_row (m_row I 95 (va_up (va_up (I 95) 0 (nI 0)) 10 (nI len))) 97 (I 97)) 98 (I 98)) 99 (I 99)) from (by rw [m_up_comm (by decide), m_up_comm (by decide), m_up_comm (by decide), m_up_r])]
  refine a_aload_n 0 dM_text_15 rfl rfl ?_
  refine a_geta (r := 97) dM_text_16 fl12_13 rfl ly_95 (by omega) (rf_95_2 hR) ?_
  refine a_iconstN (a := 0) dM_text_19 (by decide) ?_
  refine a_iconstN (a := 0) dM_text_20 (by decide) ?_
  refine a_iastN (a := 0) dM_text_21 ly_97 (by omega) (by omega) (by decide) ?_
  rw [show m_up (m_row (m_row (m_row (m_row I 95 (va_up (va_up (I 95) 0 (nI 0)) 10 (nI len))) 97 (I 97)) 98 (I 98)) 99 (I 99)) 97 0 (nI 0) = (m_row (m_row (m_row (m_row I 95 (va_up (va_up (I 95) 0 (nI 0)) 10 (nI len))) 97 (va_up (I 97) 0 (nI 0))) 98 (I 98)) 99 (I 99)) from (by rw [m_up_comm (by decide), m_up_comm (by decide), m_up_r])]
  refine a_aload_n 0 dM_text_22 rfl rfl ?_
  refine a_geta (r := 98) dM_text_23 fl12_17 rfl ly_95 (by omega) (rf_95_3 hR) ?_
  refine a_iconstN (a := 0) dM_text_26 (by decide) ?_
  refine a_iconstN (a := 0) dM_text_27 (by decide) ?_
  refine a_iastN (a := 0) dM_text_28 ly_98 (by omega) (by omega) (by decide) ?_
  rw [show m_up (m_row (m_row (m_row (m_row I 95 (va_up (va_up (I 95) 0 (nI 0)) 10 (nI len))) 97 (va_up (I 97) 0 (nI 0))) 98 (I 98)) 99 (I 99)) 98 0 (nI 0) = (m_row (m_row (m_row (m_row I 95 (va_up (va_up (I 95) 0 (nI 0)) 10 (nI len))) 97 (va_up (I 97) 0 (nI 0))) 98 (va_up (I 98) 0 (nI 0))) 99 (I 99)) from (by rw [m_up_comm (by decide), m_up_r])]
  refine a_aload_n 0 dM_text_29 rfl rfl ?_
  refine a_geta (r := 99) dM_text_30 fl12_20 rfl ly_95 (by omega) (rf_95_4 hR) ?_
  refine a_iconstN (a := 0) dM_text_33 (by decide) ?_
  refine a_iconst (v := -1) dM_text_34 (by decide) ?_
  refine a_iastN (a := 0) dM_text_35 ly_99 (by omega) (by omega) (by decide) ?_
  rw [show m_up (m_row (m_row (m_row (m_row I 95 (va_up (va_up (I 95) 0 (nI 0)) 10 (nI len))) 97 (va_up (I 97) 0 (nI 0))) 98 (va_up (I 98) 0 (nI 0))) 99 (I 99)) 99 0 (-1) = (m_row (m_row (m_row (m_row I 95 (va_up (va_up (I 95) 0 (nI 0)) 10 (nI len))) 97 (va_up (I 97) 0 (nI 0))) 98 (va_up (I 98) 0 (nI 0))) 99 (va_up (I 99) 0 (-1))) from (by rw [m_up_r])]
  refine a_iload_n 1 dM_text_36 rfl rfl ?_
  refine a_iconstN (a := 0) dM_text_37 (by decide) ?_
  refine a_iconstN (a := 2) dM_text_38 (by decide) ?_
  refine a_callS (Q' := m_res (some (.int 1)) (m_row (m_row (m_row (m_row I 95 (va_up (va_up (I 95) 0 (nI 0)) 10 (nI len))) 97 (va_up (I 97) 0 (nI 0))) 98 (va_up (I 98) 0 (nI 0))) 99 (va_up (I 99) 0 (-1))) J R) (as := [.int (nI 2), .int (nI 0), .int (nI 2)]) (st := []) dM_text_39 ml12_102 rfl (Nat.le_of_ble_eq_true rfl) (Nat.le_of_ble_eq_true rfl) rfl (Nat.le_refl _) (Nat.le_refl _) (c_M_inE (f_in_n (by decide) (by decide) (by decide))) (m_go ?_)
  show AW _ _ _ _ _ _ _ _ [.int 1] _ _ _ _
  refine a_if_eq (tgt := 72) dM_text_42 (by decide) (fun c => False.elim (absurd c (by decide))) (fun _ => ?_)
  refine a_iload_n 2 dM_text_45 rfl rfl ?_
  refine a_iconst (v := -1) dM_text_46 (by decide) ?_
  refine a_icmp_ne (tgt := 63) dM_text_47 (by decide) (fun c => False.elim (c rfl)) (fun _ => ?_)
  refine a_aload_n 0 dM_text_50 rfl rfl ?_
  refine a_geta (r := 100) dM_text_51 fl12_23 rfl ly_95 (by omega) (rf_95_5 hR) ?_
  refine a_iload_n 1 dM_text_54 rfl rfl ?_
  refine a_ialdN (a := 2) dM_text_55 ly_100 (by omega) (by omega) (by decide) ?_
  rw [show (m_row (m_row (m_row (m_row I 95 (va_up (va_up (I 95) 0 (nI 0)) 10 (nI len))) 97 (va_up (I 97) 0 (nI 0))) 98 (va_up (I 98) 0 (nI 0))) 99 (va_up (I 99) 0 (-1))) 100 2 = I 100 2 from rfl]
  refine a_iconstN (a := 2) dM_text_56 (by decide) ?_
  refine a_icmp_ne (tgt := 75) dM_text_57 (by decide) (fun c => False.elim (c h)) (fun _ => ?_)
  refine a_goto (tgt := 72) dM_text_60 (by decide) ?_
  refine a_bipush (v := -2) dM_text_72 (by decide) ?_
  exact a_iret dM_text_74 rfl ⟨rfl, rfl, rfl, rfl, rfl, rfl, rfl, fun a ha => (m_row_ne (by omega)).trans ((m_row_ne (by omega)).trans ((m_row_ne (by omega)).trans (m_row_ne (by omega))))⟩
theorem q_M_text2oX {S : Nat × (Nat → Int32)} {d n : Nat} {I : mI} {J : mJ} {R : mR} (hn : 122 ≤ n) (hR : m_fin R) {len : Nat} (hlen : I 97 0 = nI len) (hl6 : len ≤ 600) (hby : byT (I 96) len) {y : Int32} (hy : ¬ y = -1) (h : f_in y 0 (I 100 2 - 1) = 0)  : AW S (d + 9) YM_text n n (txN I R (-2) (nI 0) (-1) (I 100) 101 (I 101)) 0 [(0, .ref 95), (1, .int (nI 2)), (2, .int y)] [] I J R n := by
  refine a_mem (show I = (m_row (m_row (m_row (m_row I 95 (I 95)) 97 (I 97)) 98 (I 98)) 99 (I 99)) by rw [m_row_self, m_row_self, m_row_self, m_row_self]) ?_
  refine a_aload_n 0 dM_text_0 rfl rfl ?_
  refine a_iconstN (a := 0) dM_text_1 (by decide) ?_
  refine a_puti dM_text_2 fl12_90 rfl ly_95 (by omega) ?_
  rw [show m_up (m_row (m_row (m_row (m_row I 95 (I 95)) 97 (I 97)) 98 (I 98)) 99 (I 99)) 95 0 (nI 0) = (m_row (m_row (m_row (m_row I 95 (va_up (I 95) 0 (nI 0))) 97 (I 97)) 98 (I 98)) 99 (I 99)) from (by rw [m_up_comm (by decide), m_up_comm (by decide), m_up_comm (by decide), m_up_r])]
  refine a_aload_n 0 dM_text_5 rfl rfl ?_
  refine a_aload_n 0 dM_text_6 rfl rfl ?_
  refine a_geta (r := 97) dM_text_7 fl12_13 rfl ly_95 (by omega) (rf_95_2 hR) ?_
  refine a_iconstN (a := 0) dM_text_10 (by decide) ?_
  refine a_ialdN (a := 0) dM_text_11 ly_97 (by omega) (by omega) (by decide) ?_
  rw [show (m_row (m_row (m_row (m_row I 95 (va_up (I 95) 0 (nI 0))) 97 (I 97)) 98 (I 98)) 99 (I 99)) 97 0 = (nI len) from hlen]
  refine a_puti dM_text_12 fl12_113 rfl ly_95 (by omega) ?_
  rw [show m_up (m_row (m_row (m_row (m_row I 95 (va_up (I 95) 0 (nI 0))) 97 (I 97)) 98 (I 98)) 99 (I 99)) 95 10 (nI len) = (m_row (m_row (m_row (m_row I 95 (va_up (va_up (I 95) 0 (nI 0)) 10 (nI len))) 97 (I 97)) 98 (I 98)) 99 (I 99)) from (by rw [m_up_comm (by decide), m_up_comm (by decide), m_up_comm (by decide), m_up_r])]
  refine a_aload_n 0 dM_text_15 rfl rfl ?_
  refine a_geta (r := 97) dM_text_16 fl12_13 rfl ly_95 (by omega) (rf_95_2 hR) ?_
  refine a_iconstN (a := 0) dM_text_19 (by decide) ?_
  refine a_iconstN (a := 0) dM_text_20 (by decide) ?_
  refine a_iastN (a := 0) dM_text_21 ly_97 (by omega) (by omega) (by decide) ?_
  rw [show m_up (m_row (m_row (m_row (m_row I 95 (va_up (va_up (I 95) 0 (nI 0)) 10 (nI len))) 97 (I 97)) 98 (I 98)) 99 (I 99)) 97 0 (nI 0) = (m_row (m_row (m_row (m_row I 95 (va_up (va_up (I 95) 0 (nI 0)) 10 (nI len))) 97 (va_up (I 97) 0 (nI 0))) 98 (I 98)) 99 (I 99)) from (by rw [m_up_comm (by decide), m_up_comm (by decide), m_up_r])]
  refine a_aload_n 0 dM_text_22 rfl rfl ?_
  refine a_geta (r := 98) dM_text_23 fl12_17 rfl ly_95 (by omega) (rf_95_3 hR) ?_
  refine a_iconstN (a := 0) dM_text_26 (by decide) ?_
  refine a_iconstN (a := 0) dM_text_27 (by decide) ?_
  refine a_iastN (a := 0) dM_text_28 ly_98 (by omega) (by omega) (by decide) ?_
  rw [show m_up (m_row (m_row (m_row (m_row I 95 (va_up (va_up (I 95) 0 (nI 0)) 10 (nI len))) 97 (va_up (I 97) 0 (nI 0))) 98 (I 98)) 99 (I 99)) 98 0 (nI 0) = (m_row (m_row (m_row (m_row I 95 (va_up (va_up (I 95) 0 (nI 0)) 10 (nI len))) 97 (va_up (I 97) 0 (nI 0))) 98 (va_up (I 98) 0 (nI 0))) 99 (I 99)) from (by rw [m_up_comm (by decide), m_up_r])]
  refine a_aload_n 0 dM_text_29 rfl rfl ?_
  refine a_geta (r := 99) dM_text_30 fl12_20 rfl ly_95 (by omega) (rf_95_4 hR) ?_
  refine a_iconstN (a := 0) dM_text_33 (by decide) ?_
  refine a_iconst (v := -1) dM_text_34 (by decide) ?_
  refine a_iastN (a := 0) dM_text_35 ly_99 (by omega) (by omega) (by decide) ?_
  rw [show m_up (m_row (m_row (m_row (m_row I 95 (va_up (va_up (I 95) 0 (nI 0)) 10 (nI len))) 97 (va_up (I 97) 0 (nI 0))) 98 (va_up (I 98) 0 (nI 0))) 99 (I 99)) 99 0 (-1) = (m_row (m_row (m_row (m_row I 95 (va_up (va_up (I 95) 0 (nI 0)) 10 (nI len))) 97 (va_up (I 97) 0 (nI 0))) 98 (va_up (I 98) 0 (nI 0))) 99 (va_up (I 99) 0 (-1))) from (by rw [m_up_r])]
  refine a_iload_n 1 dM_text_36 rfl rfl ?_
  refine a_iconstN (a := 0) dM_text_37 (by decide) ?_
  refine a_iconstN (a := 2) dM_text_38 (by decide) ?_
  refine a_callS (Q' := m_res (some (.int 1)) (m_row (m_row (m_row (m_row I 95 (va_up (va_up (I 95) 0 (nI 0)) 10 (nI len))) 97 (va_up (I 97) 0 (nI 0))) 98 (va_up (I 98) 0 (nI 0))) 99 (va_up (I 99) 0 (-1))) J R) (as := [.int (nI 2), .int (nI 0), .int (nI 2)]) (st := []) dM_text_39 ml12_102 rfl (Nat.le_of_ble_eq_true rfl) (Nat.le_of_ble_eq_true rfl) rfl (Nat.le_refl _) (Nat.le_refl _) (c_M_inE (f_in_n (by decide) (by decide) (by decide))) (m_go ?_)
  show AW _ _ _ _ _ _ _ _ [.int 1] _ _ _ _
  refine a_if_eq (tgt := 72) dM_text_42 (by decide) (fun c => False.elim (absurd c (by decide))) (fun _ => ?_)
  refine a_iload_n 2 dM_text_45 rfl rfl ?_
  refine a_iconst (v := -1) dM_text_46 (by decide) ?_
  refine a_icmp_ne (tgt := 63) dM_text_47 (by decide) (fun _ => ?_) (fun c => False.elim (hy c))
  refine a_aload_n 0 dM_text_63 rfl rfl ?_
  refine a_iload_n 1 dM_text_64 rfl rfl ?_
  refine a_iload_n 2 dM_text_65 rfl rfl ?_
  refine a_callV (Q' := m_res (some (.int 0)) (m_row (m_row (m_row (m_row I 95 (va_up (va_up (I 95) 0 (nI 0)) 10 (nI len))) 97 (va_up (I 97) 0 (nI 0))) 98 (va_up (I 98) 0 (nI 0))) 99 (va_up (I 99) 0 (-1))) J R) (as := [.int (nI 2), .int y]) (st := []) dM_text_66 ml12_242 rfl (Nat.le_of_ble_eq_true rfl) ly_95 rfl rfl (by decide) (by omega) (Nat.le_of_ble_eq_true rfl) rfl (Nat.le_refl _) (Nat.le_refl _) (by have q := c_M_is (S := S) (d := d + 7) (n := n) (I := (m_row (m_row (m_row (m_row I 95 (va_up (va_up (I 95) 0 (nI 0)) 10 (nI len))) 97 (va_up (I 97) 0 (nI 0))) 98 (va_up (I 98) 0 (nI 0))) 99 (va_up (I 99) 0 (-1)))) (J := J) (R := R) (s := 2) (k := y) hn hR (by decide); rw [show (m_row (m_row (m_row (m_row I 95 (va_up (va_up (I 95) 0 (nI 0)) 10 (nI len))) 97 (va_up (I 97) 0 (nI 0))) 98 (va_up (I 98) 0 (nI 0))) 99 (va_up (I 99) 0 (-1))) 100 2 = I 100 2 from rfl, h] at q; exact q) (m_go ?_)
  show AW _ _ _ _ _ _ _ _ [.int 0] _ _ _ _
  refine a_if_ne (tgt := 75) dM_text_69 (by decide) (fun c => False.elim (c rfl)) (fun _ => ?_)
  refine a_bipush (v := -2) dM_text_72 (by decide) ?_
  exact a_iret dM_text_74 rfl ⟨rfl, rfl, rfl, rfl, rfl, rfl, rfl, fun a ha => (m_row_ne (by omega)).trans ((m_row_ne (by omega)).trans ((m_row_ne (by omega)).trans (m_row_ne (by omega))))⟩
theorem q_M_text0nF {S : Nat × (Nat → Int32)} {d n : Nat} {I : mI} {J : mJ} {R : mR} (hn : 122 ≤ n) (hR : m_fin R) {len : Nat} (hlen : I 97 0 = nI len) (hl6 : len ≤ 600) (hby : byT (I 96) len) (h : ¬ I 100 0 = nI 2) (hf0 : ¬ (rdA (I 96) len 0 (len + 1) 0 (0, 0, -1, -1, DiA (I 104) 0)).f = 0)  : AW S (d + 9) YM_text n n (txN I R (-1) (nI (rdA (I 96) len 0 (len + 1) 0 (0, 0, -1, -1, DiA (I 104) 0)).f) (nI (rdA (I 96) len 0 (len + 1) 0 (0, 0, -1, -1, DiA (I 104) 0)).pl) (I 100) 101 (I 101)) 0 [(0, .ref 95), (1, .int (nI 0)), (2, .int (-1))] [] I J R n := by
  refine a_mem (show I = (m_row (m_row (m_row (m_row I 95 (I 95)) 97 (I 97)) 98 (I 98)) 99 (I 99)) by rw [m_row_self, m_row_self, m_row_self, m_row_self]) ?_
  refine a_aload_n 0 dM_text_0 rfl rfl ?_
  refine a_iconstN (a := 0) dM_text_1 (by decide) ?_
  refine a_puti dM_text_2 fl12_90 rfl ly_95 (by omega) ?_
  rw [show m_up (m_row (m_row (m_row (m_row I 95 (I 95)) 97 (I 97)) 98 (I 98)) 99 (I 99)) 95 0 (nI 0) = (m_row (m_row (m_row (m_row I 95 (va_up (I 95) 0 (nI 0))) 97 (I 97)) 98 (I 98)) 99 (I 99)) from (by rw [m_up_comm (by decide), m_up_comm (by decide), m_up_comm (by decide), m_up_r])]
  refine a_aload_n 0 dM_text_5 rfl rfl ?_
  refine a_aload_n 0 dM_text_6 rfl rfl ?_
  refine a_geta (r := 97) dM_text_7 fl12_13 rfl ly_95 (by omega) (rf_95_2 hR) ?_
  refine a_iconstN (a := 0) dM_text_10 (by decide) ?_
  refine a_ialdN (a := 0) dM_text_11 ly_97 (by omega) (by omega) (by decide) ?_
  rw [show (m_row (m_row (m_row (m_row I 95 (va_up (I 95) 0 (nI 0))) 97 (I 97)) 98 (I 98)) 99 (I 99)) 97 0 = (nI len) from hlen]
  refine a_puti dM_text_12 fl12_113 rfl ly_95 (by omega) ?_
  rw [show m_up (m_row (m_row (m_row (m_row I 95 (va_up (I 95) 0 (nI 0))) 97 (I 97)) 98 (I 98)) 99 (I 99)) 95 10 (nI len) = (m_row (m_row (m_row (m_row I 95 (va_up (va_up (I 95) 0 (nI 0)) 10 (nI len))) 97 (I 97)) 98 (I 98)) 99 (I 99)) from (by rw [m_up_comm (by decide), m_up_comm (by decide), m_up_comm (by decide), m_up_r])]
  refine a_aload_n 0 dM_text_15 rfl rfl ?_
  refine a_geta (r := 97) dM_text_16 fl12_13 rfl ly_95 (by omega) (rf_95_2 hR) ?_
  refine a_iconstN (a := 0) dM_text_19 (by decide) ?_
  refine a_iconstN (a := 0) dM_text_20 (by decide) ?_
  refine a_iastN (a := 0) dM_text_21 ly_97 (by omega) (by omega) (by decide) ?_
  rw [show m_up (m_row (m_row (m_row (m_row I 95 (va_up (va_up (I 95) 0 (nI 0)) 10 (nI len))) 97 (I 97)) 98 (I 98)) 99 (I 99)) 97 0 (nI 0) = (m_row (m_row (m_row (m_row I 95 (va_up (va_up (I 95) 0 (nI 0)) 10 (nI len))) 97 (va_up (I 97) 0 (nI 0))) 98 (I 98)) 99 (I 99)) from (by rw [m_up_comm (by decide), m_up_comm (by decide), m_up_r])]
  refine a_aload_n 0 dM_text_22 rfl rfl ?_
  refine a_geta (r := 98) dM_text_23 fl12_17 rfl ly_95 (by omega) (rf_95_3 hR) ?_
  refine a_iconstN (a := 0) dM_text_26 (by decide) ?_
  refine a_iconstN (a := 0) dM_text_27 (by decide) ?_
  refine a_iastN (a := 0) dM_text_28 ly_98 (by omega) (by omega) (by decide) ?_
  rw [show m_up (m_row (m_row (m_row (m_row I 95 (va_up (va_up (I 95) 0 (nI 0)) 10 (nI len))) 97 (va_up (I 97) 0 (nI 0))) 98 (I 98)) 99 (I 99)) 98 0 (nI 0) = (m_row (m_row (m_row (m_row I 95 (va_up (va_up (I 95) 0 (nI 0)) 10 (nI len))) 97 (va_up (I 97) 0 (nI 0))) 98 (va_up (I 98) 0 (nI 0))) 99 (I 99)) from (by rw [m_up_comm (by decide), m_up_r])]
  refine a_aload_n 0 dM_text_29 rfl rfl ?_
  refine a_geta (r := 99) dM_text_30 fl12_20 rfl ly_95 (by omega) (rf_95_4 hR) ?_
  refine a_iconstN (a := 0) dM_text_33 (by decide) ?_
  refine a_iconst (v := -1) dM_text_34 (by decide) ?_
  refine a_iastN (a := 0) dM_text_35 ly_99 (by omega) (by omega) (by decide) ?_
  rw [show m_up (m_row (m_row (m_row (m_row I 95 (va_up (va_up (I 95) 0 (nI 0)) 10 (nI len))) 97 (va_up (I 97) 0 (nI 0))) 98 (va_up (I 98) 0 (nI 0))) 99 (I 99)) 99 0 (-1) = (m_row (m_row (m_row (m_row I 95 (va_up (va_up (I 95) 0 (nI 0)) 10 (nI len))) 97 (va_up (I 97) 0 (nI 0))) 98 (va_up (I 98) 0 (nI 0))) 99 (va_up (I 99) 0 (-1))) from (by rw [m_up_r])]
  refine a_iload_n 1 dM_text_36 rfl rfl ?_
  refine a_iconstN (a := 0) dM_text_37 (by decide) ?_
  refine a_iconstN (a := 2) dM_text_38 (by decide) ?_
  refine a_callS (Q' := m_res (some (.int 1)) (m_row (m_row (m_row (m_row I 95 (va_up (va_up (I 95) 0 (nI 0)) 10 (nI len))) 97 (va_up (I 97) 0 (nI 0))) 98 (va_up (I 98) 0 (nI 0))) 99 (va_up (I 99) 0 (-1))) J R) (as := [.int (nI 0), .int (nI 0), .int (nI 2)]) (st := []) dM_text_39 ml12_102 rfl (Nat.le_of_ble_eq_true rfl) (Nat.le_of_ble_eq_true rfl) rfl (Nat.le_refl _) (Nat.le_refl _) (c_M_inE (f_in_n (by decide) (by decide) (by decide))) (m_go ?_)
  show AW _ _ _ _ _ _ _ _ [.int 1] _ _ _ _
  refine a_if_eq (tgt := 72) dM_text_42 (by decide) (fun c => False.elim (absurd c (by decide))) (fun _ => ?_)
  refine a_iload_n 2 dM_text_45 rfl rfl ?_
  refine a_iconst (v := -1) dM_text_46 (by decide) ?_
  refine a_icmp_ne (tgt := 63) dM_text_47 (by decide) (fun c => False.elim (c rfl)) (fun _ => ?_)
  refine a_aload_n 0 dM_text_50 rfl rfl ?_
  refine a_geta (r := 100) dM_text_51 fl12_23 rfl ly_95 (by omega) (rf_95_5 hR) ?_
  refine a_iload_n 1 dM_text_54 rfl rfl ?_
  refine a_ialdN (a := 0) dM_text_55 ly_100 (by omega) (by omega) (by decide) ?_
  rw [show (m_row (m_row (m_row (m_row I 95 (va_up (va_up (I 95) 0 (nI 0)) 10 (nI len))) 97 (va_up (I 97) 0 (nI 0))) 98 (va_up (I 98) 0 (nI 0))) 99 (va_up (I 99) 0 (-1))) 100 0 = I 100 0 from rfl]
  refine a_iconstN (a := 2) dM_text_56 (by decide) ?_
  refine a_icmp_ne (tgt := 75) dM_text_57 (by decide) (fun _ => ?_) (fun c => False.elim (h c))
  refine a_aload_n 0 dM_text_75 rfl rfl ?_
  refine a_iload_n 1 dM_text_76 rfl rfl ?_
  refine a_mem (show (m_row (m_row (m_row (m_row I 95 (va_up (va_up (I 95) 0 (nI 0)) 10 (nI len))) 97 (va_up (I 97) 0 (nI 0))) 98 (va_up (I 98) 0 (nI 0))) 99 (va_up (I 99) 0 (-1))) = mRd (m_row (m_row (m_row I 97 (va_up (I 97) 0 (nI 0))) 98 (va_up (I 98) 0 (nI 0))) 99 (va_up (I 99) 0 (-1))) (va_up (va_up (I 95) 0 (nI 0)) 10 (nI len)) (I 104) (I 105) from mR_in) ?_
  refine a_callV (Q' := rtQ (m_row (m_row (m_row I 97 (va_up (I 97) 0 (nI 0))) 98 (va_up (I 98) 0 (nI 0))) 99 (va_up (I 99) 0 (-1))) R (rdA (I 96) len 0 (len + 1) 0 (0, 0, -1, -1, DiA (I 104) 0))) (as := [.int (nI 0)]) (st := []) dM_text_77 ml12_245 rfl (Nat.le_of_ble_eq_true rfl) ly_95 rfl rfl (by decide) (by omega) (Nat.le_of_ble_eq_true rfl) rfl (Nat.le_refl _) (Nat.le_refl _) (r_readText (I := (m_row (m_row (m_row I 97 (va_up (I 97) 0 (nI 0))) 98 (va_up (I 98) 0 (nI 0))) 99 (va_up (I 99) 0 (-1)))) (F := (va_up (va_up (I 95) 0 (nI 0)) 10 (nI len))) (D := I 104) (A := I 105) hn hR hl6 hby rfl (by decide)) ?_
  intro v9 I9 J9 R9 ⟨e3, e1, g98, g99, g104, fr⟩
  rw [e3, e1, if_neg hf0]
  show AW _ _ _ _ _ _ _ _ [.int (nI 0)] _ _ _ _
  refine a_if_ne (tgt := 85) dM_text_80 (by decide) (fun c => False.elim (c rfl)) (fun _ => ?_)
  refine a_iconst (v := -1) dM_text_83 (by decide) ?_
  exact a_iret dM_text_84 rfl ⟨rfl, rfl, fr 97 (by decide) (by decide) (by decide) (by decide) (by decide), g98.trans (by show va_up (va_up (I 98) 0 (nI 0)) 0 _ = _; exact vaUU), g99.trans (by rw [if_neg hf0]; exact vaUU), fr 100 (by decide) (by decide) (by decide) (by decide) (by decide), fr 101 (by decide) (by decide) (by decide) (by decide) (by decide), fun a ha => (fr a (by omega) (by omega) (by omega) (by omega) (by omega)).trans ((m_row_ne (by omega)).trans ((m_row_ne (by omega)).trans (m_row_ne (by omega))))⟩
theorem q_M_text0n0 {S : Nat × (Nat → Int32)} {d n : Nat} {I : mI} {J : mJ} {R : mR} (hn : 122 ≤ n) (hR : m_fin R) {len : Nat} (hlen : I 97 0 = nI len) (hl6 : len ≤ 600) (hby : byT (I 96) len) (h3 : I 100 0 = nI 0) (hf0 : (rdA (I 96) len 0 (len + 1) 0 (0, 0, -1, -1, DiA (I 104) 0)).f = 0)  : AW S (d + 9) YM_text n n (txN I R (nI 0) (nI 0) (-1) (va_up (I 100) 0 (nI 1)) 101 (stF (rdA (I 96) len 0 (len + 1) 0 (0, 0, -1, -1, DiA (I 104) 0)).D (I 101) (75 * 0) 75)) 0 [(0, .ref 95), (1, .int (nI 0)), (2, .int (-1))] [] I J R n := by
  refine a_mem (show I = (m_row (m_row (m_row (m_row I 95 (I 95)) 97 (I 97)) 98 (I 98)) 99 (I 99)) by rw [m_row_self, m_row_self, m_row_self, m_row_self]) ?_
  refine a_aload_n 0 dM_text_0 rfl rfl ?_
  refine a_iconstN (a := 0) dM_text_1 (by decide) ?_
  refine a_puti dM_text_2 fl12_90 rfl ly_95 (by omega) ?_
  rw [show m_up (m_row (m_row (m_row (m_row I 95 (I 95)) 97 (I 97)) 98 (I 98)) 99 (I 99)) 95 0 (nI 0) = (m_row (m_row (m_row (m_row I 95 (va_up (I 95) 0 (nI 0))) 97 (I 97)) 98 (I 98)) 99 (I 99)) from (by rw [m_up_comm (by decide), m_up_comm (by decide), m_up_comm (by decide), m_up_r])]
  refine a_aload_n 0 dM_text_5 rfl rfl ?_
  refine a_aload_n 0 dM_text_6 rfl rfl ?_
  refine a_geta (r := 97) dM_text_7 fl12_13 rfl ly_95 (by omega) (rf_95_2 hR) ?_
  refine a_iconstN (a := 0) dM_text_10 (by decide) ?_
  refine a_ialdN (a := 0) dM_text_11 ly_97 (by omega) (by omega) (by decide) ?_
  rw [show (m_row (m_row (m_row (m_row I 95 (va_up (I 95) 0 (nI 0))) 97 (I 97)) 98 (I 98)) 99 (I 99)) 97 0 = (nI len) from hlen]
  refine a_puti dM_text_12 fl12_113 rfl ly_95 (by omega) ?_
  rw [show m_up (m_row (m_row (m_row (m_row I 95 (va_up (I 95) 0 (nI 0))) 97 (I 97)) 98 (I 98)) 99 (I 99)) 95 10 (nI len) = (m_row (m_row (m_row (m_row I 95 (va_up (va_up (I 95) 0 (nI 0)) 10 (nI len))) 97 (I 97)) 98 (I 98)) 99 (I 99)) from (by rw [m_up_comm (by decide), m_up_comm (by decide), m_up_comm (by decide), m_up_r])]
  refine a_aload_n 0 dM_text_15 rfl rfl ?_
  refine a_geta (r := 97) dM_text_16 fl12_13 rfl ly_95 (by omega) (rf_95_2 hR) ?_
  refine a_iconstN (a := 0) dM_text_19 (by decide) ?_
  refine a_iconstN (a := 0) dM_text_20 (by decide) ?_
  refine a_iastN (a := 0) dM_text_21 ly_97 (by omega) (by omega) (by decide) ?_
  rw [show m_up (m_row (m_row (m_row (m_row I 95 (va_up (va_up (I 95) 0 (nI 0)) 10 (nI len))) 97 (I 97)) 98 (I 98)) 99 (I 99)) 97 0 (nI 0) = (m_row (m_row (m_row (m_row I 95 (va_up (va_up (I 95) 0 (nI 0)) 10 (nI len))) 97 (va_up (I 97) 0 (nI 0))) 98 (I 98)) 99 (I 99)) from (by rw [m_up_comm (by decide), m_up_comm (by decide), m_up_r])]
  refine a_aload_n 0 dM_text_22 rfl rfl ?_
  refine a_geta (r := 98) dM_text_23 fl12_17 rfl ly_95 (by omega) (rf_95_3 hR) ?_
  refine a_iconstN (a := 0) dM_text_26 (by decide) ?_
  refine a_iconstN (a := 0) dM_text_27 (by decide) ?_
  refine a_iastN (a := 0) dM_text_28 ly_98 (by omega) (by omega) (by decide) ?_
  rw [show m_up (m_row (m_row (m_row (m_row I 95 (va_up (va_up (I 95) 0 (nI 0)) 10 (nI len))) 97 (va_up (I 97) 0 (nI 0))) 98 (I 98)) 99 (I 99)) 98 0 (nI 0) = (m_row (m_row (m_row (m_row I 95 (va_up (va_up (I 95) 0 (nI 0)) 10 (nI len))) 97 (va_up (I 97) 0 (nI 0))) 98 (va_up (I 98) 0 (nI 0))) 99 (I 99)) from (by rw [m_up_comm (by decide), m_up_r])]
  refine a_aload_n 0 dM_text_29 rfl rfl ?_
  refine a_geta (r := 99) dM_text_30 fl12_20 rfl ly_95 (by omega) (rf_95_4 hR) ?_
  refine a_iconstN (a := 0) dM_text_33 (by decide) ?_
  refine a_iconst (v := -1) dM_text_34 (by decide) ?_
  refine a_iastN (a := 0) dM_text_35 ly_99 (by omega) (by omega) (by decide) ?_
  rw [show m_up (m_row (m_row (m_row (m_row I 95 (va_up (va_up (I 95) 0 (nI 0)) 10 (nI len))) 97 (va_up (I 97) 0 (nI 0))) 98 (va_up (I 98) 0 (nI 0))) 99 (I 99)) 99 0 (-1) = (m_row (m_row (m_row (m_row I 95 (va_up (va_up (I 95) 0 (nI 0)) 10 (nI len))) 97 (va_up (I 97) 0 (nI 0))) 98 (va_up (I 98) 0 (nI 0))) 99 (va_up (I 99) 0 (-1))) from (by rw [m_up_r])]
  refine a_iload_n 1 dM_text_36 rfl rfl ?_
  refine a_iconstN (a := 0) dM_text_37 (by decide) ?_
  refine a_iconstN (a := 2) dM_text_38 (by decide) ?_
  refine a_callS (Q' := m_res (some (.int 1)) (m_row (m_row (m_row (m_row I 95 (va_up (va_up (I 95) 0 (nI 0)) 10 (nI len))) 97 (va_up (I 97) 0 (nI 0))) 98 (va_up (I 98) 0 (nI 0))) 99 (va_up (I 99) 0 (-1))) J R) (as := [.int (nI 0), .int (nI 0), .int (nI 2)]) (st := []) dM_text_39 ml12_102 rfl (Nat.le_of_ble_eq_true rfl) (Nat.le_of_ble_eq_true rfl) rfl (Nat.le_refl _) (Nat.le_refl _) (c_M_inE (f_in_n (by decide) (by decide) (by decide))) (m_go ?_)
  show AW _ _ _ _ _ _ _ _ [.int 1] _ _ _ _
  refine a_if_eq (tgt := 72) dM_text_42 (by decide) (fun c => False.elim (absurd c (by decide))) (fun _ => ?_)
  refine a_iload_n 2 dM_text_45 rfl rfl ?_
  refine a_iconst (v := -1) dM_text_46 (by decide) ?_
  refine a_icmp_ne (tgt := 63) dM_text_47 (by decide) (fun c => False.elim (c rfl)) (fun _ => ?_)
  refine a_aload_n 0 dM_text_50 rfl rfl ?_
  refine a_geta (r := 100) dM_text_51 fl12_23 rfl ly_95 (by omega) (rf_95_5 hR) ?_
  refine a_iload_n 1 dM_text_54 rfl rfl ?_
  refine a_ialdN (a := 0) dM_text_55 ly_100 (by omega) (by omega) (by decide) ?_
  rw [show (m_row (m_row (m_row (m_row I 95 (va_up (va_up (I 95) 0 (nI 0)) 10 (nI len))) 97 (va_up (I 97) 0 (nI 0))) 98 (va_up (I 98) 0 (nI 0))) 99 (va_up (I 99) 0 (-1))) 100 0 = I 100 0 from rfl]
  refine a_iconstN (a := 2) dM_text_56 (by decide) ?_
  refine a_icmp_ne (tgt := 75) dM_text_57 (by decide) (fun _ => ?_) (fun c => False.elim (absurd (h3.symm.trans c) (by decide)))
  refine a_aload_n 0 dM_text_75 rfl rfl ?_
  refine a_iload_n 1 dM_text_76 rfl rfl ?_
  refine a_mem (show (m_row (m_row (m_row (m_row I 95 (va_up (va_up (I 95) 0 (nI 0)) 10 (nI len))) 97 (va_up (I 97) 0 (nI 0))) 98 (va_up (I 98) 0 (nI 0))) 99 (va_up (I 99) 0 (-1))) = mRd (m_row (m_row (m_row I 97 (va_up (I 97) 0 (nI 0))) 98 (va_up (I 98) 0 (nI 0))) 99 (va_up (I 99) 0 (-1))) (va_up (va_up (I 95) 0 (nI 0)) 10 (nI len)) (I 104) (I 105) from mR_in) ?_
  refine a_callV (Q' := rtQ (m_row (m_row (m_row I 97 (va_up (I 97) 0 (nI 0))) 98 (va_up (I 98) 0 (nI 0))) 99 (va_up (I 99) 0 (-1))) R (rdA (I 96) len 0 (len + 1) 0 (0, 0, -1, -1, DiA (I 104) 0))) (as := [.int (nI 0)]) (st := []) dM_text_77 ml12_245 rfl (Nat.le_of_ble_eq_true rfl) ly_95 rfl rfl (by decide) (by omega) (Nat.le_of_ble_eq_true rfl) rfl (Nat.le_refl _) (Nat.le_refl _) (r_readText (I := (m_row (m_row (m_row I 97 (va_up (I 97) 0 (nI 0))) 98 (va_up (I 98) 0 (nI 0))) 99 (va_up (I 99) 0 (-1)))) (F := (va_up (va_up (I 95) 0 (nI 0)) 10 (nI len))) (D := I 104) (A := I 105) hn hR hl6 hby rfl (by decide)) ?_
  intro v9 I9 J9 R9 ⟨e3, e1, g98, g99, g104, fr⟩
  rw [e3, e1, if_pos hf0]
  have g100 : I9 100 = I 100 := fr 100 (by decide) (by decide) (by decide) (by decide) (by decide)
  have gc : I9 101 = I 101 := fr 101 (by decide) (by decide) (by decide) (by decide) (by decide)
  refine a_mem (show I9 = m_row I9 100 (I9 100) from (m_row_self).symm) ?_
  show AW _ _ _ _ _ _ _ _ [.int (nI 1)] _ _ _ _
  refine a_if_ne (tgt := 85) dM_text_80 (by decide) (fun _ => ?_) (fun c => False.elim (absurd c (by decide)))
  refine a_iload_n 2 dM_text_85 rfl rfl ?_
  refine a_iconst (v := -1) dM_text_86 (by decide) ?_
  refine a_icmp_ne (tgt := 99) dM_text_87 (by decide) (fun c => False.elim (c rfl)) (fun _ => ?_)
  refine a_aload_n 0 dM_text_90 rfl rfl ?_
  refine a_geta (r := 100) dM_text_91 fl12_23 rfl ly_95 (by omega) (rf_95_5 hR) ?_
  refine a_iload_n 1 dM_text_94 rfl rfl ?_
  refine a_ialdN (a := 0) dM_text_95 ly_100 (by omega) (by omega) (by decide) ?_
  rw [show (m_row I9 100 (I9 100)) 100 0 = (nI 0) from (by rw [m_row_eq, g100]; exact h3)]
  refine a_goto (tgt := 100) dM_text_96 (by decide) ?_
  refine a_istore_n (lv' := [(3, .int (nI 0)), (0, .ref 95), (1, .int (nI 0)), (2, .int (-1))]) dM_text_100 rfl (by decide) rfl ?_
  refine a_aload_n 1 dM_text_101 rfl rfl ?_
  refine a_geta (r := 100) dM_text_102 fl12_23 rfl ly_95 (by omega) (rf_95_5 hR) ?_
  refine a_iload_n 2 dM_text_105 rfl rfl ?_
  refine a_dup2 dM_text_106 rfl rfl ?_
  refine a_ialdN (a := 0) dM_text_107 ly_100 (by omega) (by omega) (by decide) ?_
  rw [show (m_row I9 100 (I9 100)) 100 0 = (nI 0) from (by rw [m_row_eq, g100]; exact h3)]
  refine a_iload_n 3 dM_text_108 rfl rfl ?_
  refine a_iconst (v := -1) dM_text_109 (by decide) ?_
  refine a_icmp_ne (tgt := 117) dM_text_110 (by decide) (fun c => False.elim (c rfl)) (fun _ => ?_)
  refine a_iconstN (a := 1) dM_text_113 (by decide) ?_
  refine a_goto (tgt := 118) dM_text_114 (by decide) ?_
  refine a_iaddN (a := 0) (b := 1) dM_text_118 ?_
  refine a_iastN (a := 0) dM_text_119 ly_100 (by omega) (by omega) (by decide) ?_
  rw [show m_up (m_row I9 100 (I9 100)) 100 0 (nI (0 + 1)) = (m_row I9 100 (va_up (I9 100) 0 (nI (0 + 1)))) from (by rw [m_up_r])]
  refine a_iload_n 2 dM_text_120 rfl rfl ?_
  refine a_if_ne (tgt := 138) dM_text_121 (by decide) (fun c => False.elim (c rfl)) (fun _ => ?_)
  refine a_aload_n 1 dM_text_124 rfl rfl ?_
  refine a_aload_n 1 dM_text_125 rfl rfl ?_
  refine a_geta (r := 101) dM_text_126 fl12_26 rfl ly_95 (by omega) (rf_95_6 hR) ?_
  refine a_bipushN (a := 75) dM_text_129 (by decide) ?_
  refine a_iload_n 0 dM_text_131 rfl rfl ?_
  refine a_callV (Q' := m_res none (m_row (m_row I9 100 (va_up (I9 100) 0 (nI (0 + 1)))) 101 (stF ((m_row I9 100 (va_up (I9 100) 0 (nI (0 + 1)))) 104) ((m_row I9 100 (va_up (I9 100) 0 (nI (0 + 1)))) 101) (75 * 0) 75)) J9 R) (as := [.ref 101, .int (nI 75), .int (nI 0)]) (st := []) dM_text_132 ml12_248 rfl (Nat.le_of_ble_eq_true rfl) ly_95 rfl rfl (by decide) (by omega) (Nat.le_of_ble_eq_true rfl) rfl (Nat.le_refl _) (Nat.le_refl _) (c_store0 (S := S) (d := d + 8) (n := n) (I := (m_row I9 100 (va_up (I9 100) 0 (nI (0 + 1))))) (J := J9) (R := R) (k := 0) hn hR (by decide)) (m_go ?_)
  show AW _ _ _ _ _ _ _ _ [] _ _ _ _
  refine a_goto (tgt := 168) dM_text_135 (by decide) ?_
  refine a_iload_n 0 dM_text_168 rfl rfl ?_
  exact a_iret dM_text_169 rfl ⟨rfl, rfl, ((m_row_ne (by decide)).trans ((m_row_ne (by decide)).trans (fr 97 (by decide) (by decide) (by decide) (by decide) (by decide)))), ((m_row_ne (by decide)).trans ((m_row_ne (by decide)).trans (g98.trans (by rw [hf0]; exact vaUU)))), ((m_row_ne (by decide)).trans ((m_row_ne (by decide)).trans (g99.trans (by rw [if_pos hf0]; exact vaUU)))), (m_row_ne (by decide)).trans ((m_row_eq).trans (by rw [g100])), (m_row_eq).trans (by rw [m_row_ne (by decide), m_row_ne (by decide), g104 hf0, gc]), fun a ha => (m_row_ne (by omega)).trans ((m_row_ne (by omega)).trans ((fr a (by omega) (by omega) (by omega) (by omega) (by omega)).trans ((m_row_ne (by omega)).trans ((m_row_ne (by omega)).trans (m_row_ne (by omega))))))⟩
theorem q_M_text0n1 {S : Nat × (Nat → Int32)} {d n : Nat} {I : mI} {J : mJ} {R : mR} (hn : 122 ≤ n) (hR : m_fin R) {len : Nat} (hlen : I 97 0 = nI len) (hl6 : len ≤ 600) (hby : byT (I 96) len) (h3 : I 100 0 = nI 1) (hf0 : (rdA (I 96) len 0 (len + 1) 0 (0, 0, -1, -1, DiA (I 104) 0)).f = 0)  : AW S (d + 9) YM_text n n (txN I R (nI 1) (nI 0) (-1) (va_up (I 100) 0 (nI 2)) 101 (stF (rdA (I 96) len 0 (len + 1) 0 (0, 0, -1, -1, DiA (I 104) 0)).D (I 101) (75 * 1) 75)) 0 [(0, .ref 95), (1, .int (nI 0)), (2, .int (-1))] [] I J R n := by
  refine a_mem (show I = (m_row (m_row (m_row (m_row I 95 (I 95)) 97 (I 97)) 98 (I 98)) 99 (I 99)) by rw [m_row_self, m_row_self, m_row_self, m_row_self]) ?_
  refine a_aload_n 0 dM_text_0 rfl rfl ?_
  refine a_iconstN (a := 0) dM_text_1 (by decide) ?_
  refine a_puti dM_text_2 fl12_90 rfl ly_95 (by omega) ?_
  rw [show m_up (m_row (m_row (m_row (m_row I 95 (I 95)) 97 (I 97)) 98 (I 98)) 99 (I 99)) 95 0 (nI 0) = (m_row (m_row (m_row (m_row I 95 (va_up (I 95) 0 (nI 0))) 97 (I 97)) 98 (I 98)) 99 (I 99)) from (by rw [m_up_comm (by decide), m_up_comm (by decide), m_up_comm (by decide), m_up_r])]
  refine a_aload_n 0 dM_text_5 rfl rfl ?_
  refine a_aload_n 0 dM_text_6 rfl rfl ?_
  refine a_geta (r := 97) dM_text_7 fl12_13 rfl ly_95 (by omega) (rf_95_2 hR) ?_
  refine a_iconstN (a := 0) dM_text_10 (by decide) ?_
  refine a_ialdN (a := 0) dM_text_11 ly_97 (by omega) (by omega) (by decide) ?_
  rw [show (m_row (m_row (m_row (m_row I 95 (va_up (I 95) 0 (nI 0))) 97 (I 97)) 98 (I 98)) 99 (I 99)) 97 0 = (nI len) from hlen]
  refine a_puti dM_text_12 fl12_113 rfl ly_95 (by omega) ?_
  rw [show m_up (m_row (m_row (m_row (m_row I 95 (va_up (I 95) 0 (nI 0))) 97 (I 97)) 98 (I 98)) 99 (I 99)) 95 10 (nI len) = (m_row (m_row (m_row (m_row I 95 (va_up (va_up (I 95) 0 (nI 0)) 10 (nI len))) 97 (I 97)) 98 (I 98)) 99 (I 99)) from (by rw [m_up_comm (by decide), m_up_comm (by decide), m_up_comm (by decide), m_up_r])]
  refine a_aload_n 0 dM_text_15 rfl rfl ?_
  refine a_geta (r := 97) dM_text_16 fl12_13 rfl ly_95 (by omega) (rf_95_2 hR) ?_
  refine a_iconstN (a := 0) dM_text_19 (by decide) ?_
  refine a_iconstN (a := 0) dM_text_20 (by decide) ?_
  refine a_iastN (a := 0) dM_text_21 ly_97 (by omega) (by omega) (by decide) ?_
  rw [show m_up (m_row (m_row (m_row (m_row I 95 (va_up (va_up (I 95) 0 (nI 0)) 10 (nI len))) 97 (I 97)) 98 (I 98)) 99 (I 99)) 97 0 (nI 0) = (m_row (m_row (m_row (m_row I 95 (va_up (va_up (I 95) 0 (nI 0)) 10 (nI len))) 97 (va_up (I 97) 0 (nI 0))) 98 (I 98)) 99 (I 99)) from (by rw [m_up_comm (by decide), m_up_comm (by decide), m_up_r])]
  refine a_aload_n 0 dM_text_22 rfl rfl ?_
  refine a_geta (r := 98) dM_text_23 fl12_17 rfl ly_95 (by omega) (rf_95_3 hR) ?_
  refine a_iconstN (a := 0) dM_text_26 (by decide) ?_
  refine a_iconstN (a := 0) dM_text_27 (by decide) ?_
  refine a_iastN (a := 0) dM_text_28 ly_98 (by omega) (by omega) (by decide) ?_
  rw [show m_up (m_row (m_row (m_row (m_row I 95 (va_up (va_up (I 95) 0 (nI 0)) 10 (nI len))) 97 (va_up (I 97) 0 (nI 0))) 98 (I 98)) 99 (I 99)) 98 0 (nI 0) = (m_row (m_row (m_row (m_row I 95 (va_up (va_up (I 95) 0 (nI 0)) 10 (nI len))) 97 (va_up (I 97) 0 (nI 0))) 98 (va_up (I 98) 0 (nI 0))) 99 (I 99)) from (by rw [m_up_comm (by decide), m_up_r])]
  refine a_aload_n 0 dM_text_29 rfl rfl ?_
  refine a_geta (r := 99) dM_text_30 fl12_20 rfl ly_95 (by omega) (rf_95_4 hR) ?_
  refine a_iconstN (a := 0) dM_text_33 (by decide) ?_
  refine a_iconst (v := -1) dM_text_34 (by decide) ?_
  refine a_iastN (a := 0) dM_text_35 ly_99 (by omega) (by omega) (by decide) ?_
  rw [show m_up (m_row (m_row (m_row (m_row I 95 (va_up (va_up (I 95) 0 (nI 0)) 10 (nI len))) 97 (va_up (I 97) 0 (nI 0))) 98 (va_up (I 98) 0 (nI 0))) 99 (I 99)) 99 0 (-1) = (m_row (m_row (m_row (m_row I 95 (va_up (va_up (I 95) 0 (nI 0)) 10 (nI len))) 97 (va_up (I 97) 0 (nI 0))) 98 (va_up (I 98) 0 (nI 0))) 99 (va_up (I 99) 0 (-1))) from (by rw [m_up_r])]
  refine a_iload_n 1 dM_text_36 rfl rfl ?_
  refine a_iconstN (a := 0) dM_text_37 (by decide) ?_
  refine a_iconstN (a := 2) dM_text_38 (by decide) ?_
  refine a_callS (Q' := m_res (some (.int 1)) (m_row (m_row (m_row (m_row I 95 (va_up (va_up (I 95) 0 (nI 0)) 10 (nI len))) 97 (va_up (I 97) 0 (nI 0))) 98 (va_up (I 98) 0 (nI 0))) 99 (va_up (I 99) 0 (-1))) J R) (as := [.int (nI 0), .int (nI 0), .int (nI 2)]) (st := []) dM_text_39 ml12_102 rfl (Nat.le_of_ble_eq_true rfl) (Nat.le_of_ble_eq_true rfl) rfl (Nat.le_refl _) (Nat.le_refl _) (c_M_inE (f_in_n (by decide) (by decide) (by decide))) (m_go ?_)
  show AW _ _ _ _ _ _ _ _ [.int 1] _ _ _ _
  refine a_if_eq (tgt := 72) dM_text_42 (by decide) (fun c => False.elim (absurd c (by decide))) (fun _ => ?_)
  refine a_iload_n 2 dM_text_45 rfl rfl ?_
  refine a_iconst (v := -1) dM_text_46 (by decide) ?_
  refine a_icmp_ne (tgt := 63) dM_text_47 (by decide) (fun c => False.elim (c rfl)) (fun _ => ?_)
  refine a_aload_n 0 dM_text_50 rfl rfl ?_
  refine a_geta (r := 100) dM_text_51 fl12_23 rfl ly_95 (by omega) (rf_95_5 hR) ?_
  refine a_iload_n 1 dM_text_54 rfl rfl ?_
  refine a_ialdN (a := 0) dM_text_55 ly_100 (by omega) (by omega) (by decide) ?_
  rw [show (m_row (m_row (m_row (m_row I 95 (va_up (va_up (I 95) 0 (nI 0)) 10 (nI len))) 97 (va_up (I 97) 0 (nI 0))) 98 (va_up (I 98) 0 (nI 0))) 99 (va_up (I 99) 0 (-1))) 100 0 = I 100 0 from rfl]
  refine a_iconstN (a := 2) dM_text_56 (by decide) ?_
  refine a_icmp_ne (tgt := 75) dM_text_57 (by decide) (fun _ => ?_) (fun c => False.elim (absurd (h3.symm.trans c) (by decide)))
  refine a_aload_n 0 dM_text_75 rfl rfl ?_
  refine a_iload_n 1 dM_text_76 rfl rfl ?_
  refine a_mem (show (m_row (m_row (m_row (m_row I 95 (va_up (va_up (I 95) 0 (nI 0)) 10 (nI len))) 97 (va_up (I 97) 0 (nI 0))) 98 (va_up (I 98) 0 (nI 0))) 99 (va_up (I 99) 0 (-1))) = mRd (m_row (m_row (m_row I 97 (va_up (I 97) 0 (nI 0))) 98 (va_up (I 98) 0 (nI 0))) 99 (va_up (I 99) 0 (-1))) (va_up (va_up (I 95) 0 (nI 0)) 10 (nI len)) (I 104) (I 105) from mR_in) ?_
  refine a_callV (Q' := rtQ (m_row (m_row (m_row I 97 (va_up (I 97) 0 (nI 0))) 98 (va_up (I 98) 0 (nI 0))) 99 (va_up (I 99) 0 (-1))) R (rdA (I 96) len 0 (len + 1) 0 (0, 0, -1, -1, DiA (I 104) 0))) (as := [.int (nI 0)]) (st := []) dM_text_77 ml12_245 rfl (Nat.le_of_ble_eq_true rfl) ly_95 rfl rfl (by decide) (by omega) (Nat.le_of_ble_eq_true rfl) rfl (Nat.le_refl _) (Nat.le_refl _) (r_readText (I := (m_row (m_row (m_row I 97 (va_up (I 97) 0 (nI 0))) 98 (va_up (I 98) 0 (nI 0))) 99 (va_up (I 99) 0 (-1)))) (F := (va_up (va_up (I 95) 0 (nI 0)) 10 (nI len))) (D := I 104) (A := I 105) hn hR hl6 hby rfl (by decide)) ?_
  intro v9 I9 J9 R9 ⟨e3, e1, g98, g99, g104, fr⟩
  rw [e3, e1, if_pos hf0]
  have g100 : I9 100 = I 100 := fr 100 (by decide) (by decide) (by decide) (by decide) (by decide)
  have gc : I9 101 = I 101 := fr 101 (by decide) (by decide) (by decide) (by decide) (by decide)
  refine a_mem (show I9 = m_row I9 100 (I9 100) from (m_row_self).symm) ?_
  show AW _ _ _ _ _ _ _ _ [.int (nI 1)] _ _ _ _
  refine a_if_ne (tgt := 85) dM_text_80 (by decide) (fun _ => ?_) (fun c => False.elim (absurd c (by decide)))
  refine a_iload_n 2 dM_text_85 rfl rfl ?_
  refine a_iconst (v := -1) dM_text_86 (by decide) ?_
  refine a_icmp_ne (tgt := 99) dM_text_87 (by decide) (fun c => False.elim (c rfl)) (fun _ => ?_)
  refine a_aload_n 0 dM_text_90 rfl rfl ?_
  refine a_geta (r := 100) dM_text_91 fl12_23 rfl ly_95 (by omega) (rf_95_5 hR) ?_
  refine a_iload_n 1 dM_text_94 rfl rfl ?_
  refine a_ialdN (a := 0) dM_text_95 ly_100 (by omega) (by omega) (by decide) ?_
  rw [show (m_row I9 100 (I9 100)) 100 0 = (nI 1) from (by rw [m_row_eq, g100]; exact h3)]
  refine a_goto (tgt := 100) dM_text_96 (by decide) ?_
  refine a_istore_n (lv' := [(3, .int (nI 1)), (0, .ref 95), (1, .int (nI 0)), (2, .int (-1))]) dM_text_100 rfl (by decide) rfl ?_
  refine a_aload_n 1 dM_text_101 rfl rfl ?_
  refine a_geta (r := 100) dM_text_102 fl12_23 rfl ly_95 (by omega) (rf_95_5 hR) ?_
  refine a_iload_n 2 dM_text_105 rfl rfl ?_
  refine a_dup2 dM_text_106 rfl rfl ?_
  refine a_ialdN (a := 0) dM_text_107 ly_100 (by omega) (by omega) (by decide) ?_
  rw [show (m_row I9 100 (I9 100)) 100 0 = (nI 1) from (by rw [m_row_eq, g100]; exact h3)]
  refine a_iload_n 3 dM_text_108 rfl rfl ?_
  refine a_iconst (v := -1) dM_text_109 (by decide) ?_
  refine a_icmp_ne (tgt := 117) dM_text_110 (by decide) (fun c => False.elim (c rfl)) (fun _ => ?_)
  refine a_iconstN (a := 1) dM_text_113 (by decide) ?_
  refine a_goto (tgt := 118) dM_text_114 (by decide) ?_
  refine a_iaddN (a := 1) (b := 1) dM_text_118 ?_
  refine a_iastN (a := 0) dM_text_119 ly_100 (by omega) (by omega) (by decide) ?_
  rw [show m_up (m_row I9 100 (I9 100)) 100 0 (nI (1 + 1)) = (m_row I9 100 (va_up (I9 100) 0 (nI (1 + 1)))) from (by rw [m_up_r])]
  refine a_iload_n 2 dM_text_120 rfl rfl ?_
  refine a_if_ne (tgt := 138) dM_text_121 (by decide) (fun c => False.elim (c rfl)) (fun _ => ?_)
  refine a_aload_n 1 dM_text_124 rfl rfl ?_
  refine a_aload_n 1 dM_text_125 rfl rfl ?_
  refine a_geta (r := 101) dM_text_126 fl12_26 rfl ly_95 (by omega) (rf_95_6 hR) ?_
  refine a_bipushN (a := 75) dM_text_129 (by decide) ?_
  refine a_iload_n 0 dM_text_131 rfl rfl ?_
  refine a_callV (Q' := m_res none (m_row (m_row I9 100 (va_up (I9 100) 0 (nI (1 + 1)))) 101 (stF ((m_row I9 100 (va_up (I9 100) 0 (nI (1 + 1)))) 104) ((m_row I9 100 (va_up (I9 100) 0 (nI (1 + 1)))) 101) (75 * 1) 75)) J9 R) (as := [.ref 101, .int (nI 75), .int (nI 1)]) (st := []) dM_text_132 ml12_248 rfl (Nat.le_of_ble_eq_true rfl) ly_95 rfl rfl (by decide) (by omega) (Nat.le_of_ble_eq_true rfl) rfl (Nat.le_refl _) (Nat.le_refl _) (c_store0 (S := S) (d := d + 8) (n := n) (I := (m_row I9 100 (va_up (I9 100) 0 (nI (1 + 1))))) (J := J9) (R := R) (k := 1) hn hR (by decide)) (m_go ?_)
  show AW _ _ _ _ _ _ _ _ [] _ _ _ _
  refine a_goto (tgt := 168) dM_text_135 (by decide) ?_
  refine a_iload_n 0 dM_text_168 rfl rfl ?_
  exact a_iret dM_text_169 rfl ⟨rfl, rfl, ((m_row_ne (by decide)).trans ((m_row_ne (by decide)).trans (fr 97 (by decide) (by decide) (by decide) (by decide) (by decide)))), ((m_row_ne (by decide)).trans ((m_row_ne (by decide)).trans (g98.trans (by rw [hf0]; exact vaUU)))), ((m_row_ne (by decide)).trans ((m_row_ne (by decide)).trans (g99.trans (by rw [if_pos hf0]; exact vaUU)))), (m_row_ne (by decide)).trans ((m_row_eq).trans (by rw [g100])), (m_row_eq).trans (by rw [m_row_ne (by decide), m_row_ne (by decide), g104 hf0, gc]), fun a ha => (m_row_ne (by omega)).trans ((m_row_ne (by omega)).trans ((fr a (by omega) (by omega) (by omega) (by omega) (by omega)).trans ((m_row_ne (by omega)).trans ((m_row_ne (by omega)).trans (m_row_ne (by omega))))))⟩
theorem q_M_text0oF {S : Nat × (Nat → Int32)} {d n : Nat} {I : mI} {J : mJ} {R : mR} (hn : 122 ≤ n) (hR : m_fin R) {len : Nat} (hlen : I 97 0 = nI len) (hl6 : len ≤ 600) (hby : byT (I 96) len) {y : Int32} (hy : ¬ y = -1) (h : f_in y 0 (I 100 0 - 1) = 1) (hf0 : ¬ (rdA (I 96) len 0 (len + 1) 0 (0, 0, -1, -1, DiA (I 104) 0)).f = 0)  : AW S (d + 9) YM_text n n (txN I R (-1) (nI (rdA (I 96) len 0 (len + 1) 0 (0, 0, -1, -1, DiA (I 104) 0)).f) (nI (rdA (I 96) len 0 (len + 1) 0 (0, 0, -1, -1, DiA (I 104) 0)).pl) (I 100) 101 (I 101)) 0 [(0, .ref 95), (1, .int (nI 0)), (2, .int y)] [] I J R n := by
  refine a_mem (show I = (m_row (m_row (m_row (m_row I 95 (I 95)) 97 (I 97)) 98 (I 98)) 99 (I 99)) by rw [m_row_self, m_row_self, m_row_self, m_row_self]) ?_
  refine a_aload_n 0 dM_text_0 rfl rfl ?_
  refine a_iconstN (a := 0) dM_text_1 (by decide) ?_
  refine a_puti dM_text_2 fl12_90 rfl ly_95 (by omega) ?_
  rw [show m_up (m_row (m_row (m_row (m_row I 95 (I 95)) 97 (I 97)) 98 (I 98)) 99 (I 99)) 95 0 (nI 0) = (m_row (m_row (m_row (m_row I 95 (va_up (I 95) 0 (nI 0))) 97 (I 97)) 98 (I 98)) 99 (I 99)) from (by rw [m_up_comm (by decide), m_up_comm (by decide), m_up_comm (by decide), m_up_r])]
  refine a_aload_n 0 dM_text_5 rfl rfl ?_
  refine a_aload_n 0 dM_text_6 rfl rfl ?_
  refine a_geta (r := 97) dM_text_7 fl12_13 rfl ly_95 (by omega) (rf_95_2 hR) ?_
  refine a_iconstN (a := 0) dM_text_10 (by decide) ?_
  refine a_ialdN (a := 0) dM_text_11 ly_97 (by omega) (by omega) (by decide) ?_
  rw [show (m_row (m_row (m_row (m_row I 95 (va_up (I 95) 0 (nI 0))) 97 (I 97)) 98 (I 98)) 99 (I 99)) 97 0 = (nI len) from hlen]
  refine a_puti dM_text_12 fl12_113 rfl ly_95 (by omega) ?_
  rw [show m_up (m_row (m_row (m_row (m_row I 95 (va_up (I 95) 0 (nI 0))) 97 (I 97)) 98 (I 98)) 99 (I 99)) 95 10 (nI len) = (m_row (m_row (m_row (m_row I 95 (va_up (va_up (I 95) 0 (nI 0)) 10 (nI len))) 97 (I 97)) 98 (I 98)) 99 (I 99)) from (by rw [m_up_comm (by decide), m_up_comm (by decide), m_up_comm (by decide), m_up_r])]
  refine a_aload_n 0 dM_text_15 rfl rfl ?_
  refine a_geta (r := 97) dM_text_16 fl12_13 rfl ly_95 (by omega) (rf_95_2 hR) ?_
  refine a_iconstN (a := 0) dM_text_19 (by decide) ?_
  refine a_iconstN (a := 0) dM_text_20 (by decide) ?_
  refine a_iastN (a := 0) dM_text_21 ly_97 (by omega) (by omega) (by decide) ?_
  rw [show m_up (m_row (m_row (m_row (m_row I 95 (va_up (va_up (I 95) 0 (nI 0)) 10 (nI len))) 97 (I 97)) 98 (I 98)) 99 (I 99)) 97 0 (nI 0) = (m_row (m_row (m_row (m_row I 95 (va_up (va_up (I 95) 0 (nI 0)) 10 (nI len))) 97 (va_up (I 97) 0 (nI 0))) 98 (I 98)) 99 (I 99)) from (by rw [m_up_comm (by decide), m_up_comm (by decide), m_up_r])]
  refine a_aload_n 0 dM_text_22 rfl rfl ?_
  refine a_geta (r := 98) dM_text_23 fl12_17 rfl ly_95 (by omega) (rf_95_3 hR) ?_
  refine a_iconstN (a := 0) dM_text_26 (by decide) ?_
  refine a_iconstN (a := 0) dM_text_27 (by decide) ?_
  refine a_iastN (a := 0) dM_text_28 ly_98 (by omega) (by omega) (by decide) ?_
  rw [show m_up (m_row (m_row (m_row (m_row I 95 (va_up (va_up (I 95) 0 (nI 0)) 10 (nI len))) 97 (va_up (I 97) 0 (nI 0))) 98 (I 98)) 99 (I 99)) 98 0 (nI 0) = (m_row (m_row (m_row (m_row I 95 (va_up (va_up (I 95) 0 (nI 0)) 10 (nI len))) 97 (va_up (I 97) 0 (nI 0))) 98 (va_up (I 98) 0 (nI 0))) 99 (I 99)) from (by rw [m_up_comm (by decide), m_up_r])]
  refine a_aload_n 0 dM_text_29 rfl rfl ?_
  refine a_geta (r := 99) dM_text_30 fl12_20 rfl ly_95 (by omega) (rf_95_4 hR) ?_
  refine a_iconstN (a := 0) dM_text_33 (by decide) ?_
  refine a_iconst (v := -1) dM_text_34 (by decide) ?_
  refine a_iastN (a := 0) dM_text_35 ly_99 (by omega) (by omega) (by decide) ?_
  rw [show m_up (m_row (m_row (m_row (m_row I 95 (va_up (va_up (I 95) 0 (nI 0)) 10 (nI len))) 97 (va_up (I 97) 0 (nI 0))) 98 (va_up (I 98) 0 (nI 0))) 99 (I 99)) 99 0 (-1) = (m_row (m_row (m_row (m_row I 95 (va_up (va_up (I 95) 0 (nI 0)) 10 (nI len))) 97 (va_up (I 97) 0 (nI 0))) 98 (va_up (I 98) 0 (nI 0))) 99 (va_up (I 99) 0 (-1))) from (by rw [m_up_r])]
  refine a_iload_n 1 dM_text_36 rfl rfl ?_
  refine a_iconstN (a := 0) dM_text_37 (by decide) ?_
  refine a_iconstN (a := 2) dM_text_38 (by decide) ?_
  refine a_callS (Q' := m_res (some (.int 1)) (m_row (m_row (m_row (m_row I 95 (va_up (va_up (I 95) 0 (nI 0)) 10 (nI len))) 97 (va_up (I 97) 0 (nI 0))) 98 (va_up (I 98) 0 (nI 0))) 99 (va_up (I 99) 0 (-1))) J R) (as := [.int (nI 0), .int (nI 0), .int (nI 2)]) (st := []) dM_text_39 ml12_102 rfl (Nat.le_of_ble_eq_true rfl) (Nat.le_of_ble_eq_true rfl) rfl (Nat.le_refl _) (Nat.le_refl _) (c_M_inE (f_in_n (by decide) (by decide) (by decide))) (m_go ?_)
  show AW _ _ _ _ _ _ _ _ [.int 1] _ _ _ _
  refine a_if_eq (tgt := 72) dM_text_42 (by decide) (fun c => False.elim (absurd c (by decide))) (fun _ => ?_)
  refine a_iload_n 2 dM_text_45 rfl rfl ?_
  refine a_iconst (v := -1) dM_text_46 (by decide) ?_
  refine a_icmp_ne (tgt := 63) dM_text_47 (by decide) (fun _ => ?_) (fun c => False.elim (hy c))
  refine a_aload_n 0 dM_text_63 rfl rfl ?_
  refine a_iload_n 1 dM_text_64 rfl rfl ?_
  refine a_iload_n 2 dM_text_65 rfl rfl ?_
  refine a_callV (Q' := m_res (some (.int 1)) (m_row (m_row (m_row (m_row I 95 (va_up (va_up (I 95) 0 (nI 0)) 10 (nI len))) 97 (va_up (I 97) 0 (nI 0))) 98 (va_up (I 98) 0 (nI 0))) 99 (va_up (I 99) 0 (-1))) J R) (as := [.int (nI 0), .int y]) (st := []) dM_text_66 ml12_242 rfl (Nat.le_of_ble_eq_true rfl) ly_95 rfl rfl (by decide) (by omega) (Nat.le_of_ble_eq_true rfl) rfl (Nat.le_refl _) (Nat.le_refl _) (by have q := c_M_is (S := S) (d := d + 7) (n := n) (I := (m_row (m_row (m_row (m_row I 95 (va_up (va_up (I 95) 0 (nI 0)) 10 (nI len))) 97 (va_up (I 97) 0 (nI 0))) 98 (va_up (I 98) 0 (nI 0))) 99 (va_up (I 99) 0 (-1)))) (J := J) (R := R) (s := 0) (k := y) hn hR (by decide); rw [show (m_row (m_row (m_row (m_row I 95 (va_up (va_up (I 95) 0 (nI 0)) 10 (nI len))) 97 (va_up (I 97) 0 (nI 0))) 98 (va_up (I 98) 0 (nI 0))) 99 (va_up (I 99) 0 (-1))) 100 0 = I 100 0 from rfl, h] at q; exact q) (m_go ?_)
  show AW _ _ _ _ _ _ _ _ [.int 1] _ _ _ _
  refine a_if_ne (tgt := 75) dM_text_69 (by decide) (fun _ => ?_) (fun c => False.elim (absurd c (by decide)))
  refine a_aload_n 0 dM_text_75 rfl rfl ?_
  refine a_iload_n 1 dM_text_76 rfl rfl ?_
  refine a_mem (show (m_row (m_row (m_row (m_row I 95 (va_up (va_up (I 95) 0 (nI 0)) 10 (nI len))) 97 (va_up (I 97) 0 (nI 0))) 98 (va_up (I 98) 0 (nI 0))) 99 (va_up (I 99) 0 (-1))) = mRd (m_row (m_row (m_row I 97 (va_up (I 97) 0 (nI 0))) 98 (va_up (I 98) 0 (nI 0))) 99 (va_up (I 99) 0 (-1))) (va_up (va_up (I 95) 0 (nI 0)) 10 (nI len)) (I 104) (I 105) from mR_in) ?_
  refine a_callV (Q' := rtQ (m_row (m_row (m_row I 97 (va_up (I 97) 0 (nI 0))) 98 (va_up (I 98) 0 (nI 0))) 99 (va_up (I 99) 0 (-1))) R (rdA (I 96) len 0 (len + 1) 0 (0, 0, -1, -1, DiA (I 104) 0))) (as := [.int (nI 0)]) (st := []) dM_text_77 ml12_245 rfl (Nat.le_of_ble_eq_true rfl) ly_95 rfl rfl (by decide) (by omega) (Nat.le_of_ble_eq_true rfl) rfl (Nat.le_refl _) (Nat.le_refl _) (r_readText (I := (m_row (m_row (m_row I 97 (va_up (I 97) 0 (nI 0))) 98 (va_up (I 98) 0 (nI 0))) 99 (va_up (I 99) 0 (-1)))) (F := (va_up (va_up (I 95) 0 (nI 0)) 10 (nI len))) (D := I 104) (A := I 105) hn hR hl6 hby rfl (by decide)) ?_
  intro v9 I9 J9 R9 ⟨e3, e1, g98, g99, g104, fr⟩
  rw [e3, e1, if_neg hf0]
  show AW _ _ _ _ _ _ _ _ [.int (nI 0)] _ _ _ _
  refine a_if_ne (tgt := 85) dM_text_80 (by decide) (fun c => False.elim (c rfl)) (fun _ => ?_)
  refine a_iconst (v := -1) dM_text_83 (by decide) ?_
  exact a_iret dM_text_84 rfl ⟨rfl, rfl, fr 97 (by decide) (by decide) (by decide) (by decide) (by decide), g98.trans (by show va_up (va_up (I 98) 0 (nI 0)) 0 _ = _; exact vaUU), g99.trans (by rw [if_neg hf0]; exact vaUU), fr 100 (by decide) (by decide) (by decide) (by decide) (by decide), fr 101 (by decide) (by decide) (by decide) (by decide) (by decide), fun a ha => (fr a (by omega) (by omega) (by omega) (by omega) (by omega)).trans ((m_row_ne (by omega)).trans ((m_row_ne (by omega)).trans (m_row_ne (by omega))))⟩
theorem q_M_text0o0 {S : Nat × (Nat → Int32)} {d n : Nat} {I : mI} {J : mJ} {R : mR} (hn : 122 ≤ n) (hR : m_fin R) {len : Nat} (hlen : I 97 0 = nI len) (hl6 : len ≤ 600) (hby : byT (I 96) len) (h : f_in (nI 0) 0 (I 100 0 - 1) = 1) (hf0 : (rdA (I 96) len 0 (len + 1) 0 (0, 0, -1, -1, DiA (I 104) 0)).f = 0)  : AW S (d + 9) YM_text n n (txN I R (nI 0) (nI 0) (-1) (I 100) 101 (stF (rdA (I 96) len 0 (len + 1) 0 (0, 0, -1, -1, DiA (I 104) 0)).D (I 101) (75 * 0) 75)) 0 [(0, .ref 95), (1, .int (nI 0)), (2, .int (nI 0))] [] I J R n := by
  refine a_mem (show I = (m_row (m_row (m_row (m_row I 95 (I 95)) 97 (I 97)) 98 (I 98)) 99 (I 99)) by rw [m_row_self, m_row_self, m_row_self, m_row_self]) ?_
  refine a_aload_n 0 dM_text_0 rfl rfl ?_
  refine a_iconstN (a := 0) dM_text_1 (by decide) ?_
  refine a_puti dM_text_2 fl12_90 rfl ly_95 (by omega) ?_
  rw [show m_up (m_row (m_row (m_row (m_row I 95 (I 95)) 97 (I 97)) 98 (I 98)) 99 (I 99)) 95 0 (nI 0) = (m_row (m_row (m_row (m_row I 95 (va_up (I 95) 0 (nI 0))) 97 (I 97)) 98 (I 98)) 99 (I 99)) from (by rw [m_up_comm (by decide), m_up_comm (by decide), m_up_comm (by decide), m_up_r])]
  refine a_aload_n 0 dM_text_5 rfl rfl ?_
  refine a_aload_n 0 dM_text_6 rfl rfl ?_
  refine a_geta (r := 97) dM_text_7 fl12_13 rfl ly_95 (by omega) (rf_95_2 hR) ?_
  refine a_iconstN (a := 0) dM_text_10 (by decide) ?_
  refine a_ialdN (a := 0) dM_text_11 ly_97 (by omega) (by omega) (by decide) ?_
  rw [show (m_row (m_row (m_row (m_row I 95 (va_up (I 95) 0 (nI 0))) 97 (I 97)) 98 (I 98)) 99 (I 99)) 97 0 = (nI len) from hlen]
  refine a_puti dM_text_12 fl12_113 rfl ly_95 (by omega) ?_
  rw [show m_up (m_row (m_row (m_row (m_row I 95 (va_up (I 95) 0 (nI 0))) 97 (I 97)) 98 (I 98)) 99 (I 99)) 95 10 (nI len) = (m_row (m_row (m_row (m_row I 95 (va_up (va_up (I 95) 0 (nI 0)) 10 (nI len))) 97 (I 97)) 98 (I 98)) 99 (I 99)) from (by rw [m_up_comm (by decide), m_up_comm (by decide), m_up_comm (by decide), m_up_r])]
  refine a_aload_n 0 dM_text_15 rfl rfl ?_
  refine a_geta (r := 97) dM_text_16 fl12_13 rfl ly_95 (by omega) (rf_95_2 hR) ?_
  refine a_iconstN (a := 0) dM_text_19 (by decide) ?_
  refine a_iconstN (a := 0) dM_text_20 (by decide) ?_
  refine a_iastN (a := 0) dM_text_21 ly_97 (by omega) (by omega) (by decide) ?_
  rw [show m_up (m_row (m_row (m_row (m_row I 95 (va_up (va_up (I 95) 0 (nI 0)) 10 (nI len))) 97 (I 97)) 98 (I 98)) 99 (I 99)) 97 0 (nI 0) = (m_row (m_row (m_row (m_row I 95 (va_up (va_up (I 95) 0 (nI 0)) 10 (nI len))) 97 (va_up (I 97) 0 (nI 0))) 98 (I 98)) 99 (I 99)) from (by rw [m_up_comm (by decide), m_up_comm (by decide), m_up_r])]
  refine a_aload_n 0 dM_text_22 rfl rfl ?_
  refine a_geta (r := 98) dM_text_23 fl12_17 rfl ly_95 (by omega) (rf_95_3 hR) ?_
  refine a_iconstN (a := 0) dM_text_26 (by decide) ?_
  refine a_iconstN (a := 0) dM_text_27 (by decide) ?_
  refine a_iastN (a := 0) dM_text_28 ly_98 (by omega) (by omega) (by decide) ?_
  rw [show m_up (m_row (m_row (m_row (m_row I 95 (va_up (va_up (I 95) 0 (nI 0)) 10 (nI len))) 97 (va_up (I 97) 0 (nI 0))) 98 (I 98)) 99 (I 99)) 98 0 (nI 0) = (m_row (m_row (m_row (m_row I 95 (va_up (va_up (I 95) 0 (nI 0)) 10 (nI len))) 97 (va_up (I 97) 0 (nI 0))) 98 (va_up (I 98) 0 (nI 0))) 99 (I 99)) from (by rw [m_up_comm (by decide), m_up_r])]
  refine a_aload_n 0 dM_text_29 rfl rfl ?_
  refine a_geta (r := 99) dM_text_30 fl12_20 rfl ly_95 (by omega) (rf_95_4 hR) ?_
  refine a_iconstN (a := 0) dM_text_33 (by decide) ?_
  refine a_iconst (v := -1) dM_text_34 (by decide) ?_
  refine a_iastN (a := 0) dM_text_35 ly_99 (by omega) (by omega) (by decide) ?_
  rw [show m_up (m_row (m_row (m_row (m_row I 95 (va_up (va_up (I 95) 0 (nI 0)) 10 (nI len))) 97 (va_up (I 97) 0 (nI 0))) 98 (va_up (I 98) 0 (nI 0))) 99 (I 99)) 99 0 (-1) = (m_row (m_row (m_row (m_row I 95 (va_up (va_up (I 95) 0 (nI 0)) 10 (nI len))) 97 (va_up (I 97) 0 (nI 0))) 98 (va_up (I 98) 0 (nI 0))) 99 (va_up (I 99) 0 (-1))) from (by rw [m_up_r])]
  refine a_iload_n 1 dM_text_36 rfl rfl ?_
  refine a_iconstN (a := 0) dM_text_37 (by decide) ?_
  refine a_iconstN (a := 2) dM_text_38 (by decide) ?_
  refine a_callS (Q' := m_res (some (.int 1)) (m_row (m_row (m_row (m_row I 95 (va_up (va_up (I 95) 0 (nI 0)) 10 (nI len))) 97 (va_up (I 97) 0 (nI 0))) 98 (va_up (I 98) 0 (nI 0))) 99 (va_up (I 99) 0 (-1))) J R) (as := [.int (nI 0), .int (nI 0), .int (nI 2)]) (st := []) dM_text_39 ml12_102 rfl (Nat.le_of_ble_eq_true rfl) (Nat.le_of_ble_eq_true rfl) rfl (Nat.le_refl _) (Nat.le_refl _) (c_M_inE (f_in_n (by decide) (by decide) (by decide))) (m_go ?_)
  show AW _ _ _ _ _ _ _ _ [.int 1] _ _ _ _
  refine a_if_eq (tgt := 72) dM_text_42 (by decide) (fun c => False.elim (absurd c (by decide))) (fun _ => ?_)
  refine a_iload_n 2 dM_text_45 rfl rfl ?_
  refine a_iconst (v := -1) dM_text_46 (by decide) ?_
  refine a_icmp_ne (tgt := 63) dM_text_47 (by decide) (fun _ => ?_) (fun c => False.elim (absurd c (by decide)))
  refine a_aload_n 0 dM_text_63 rfl rfl ?_
  refine a_iload_n 1 dM_text_64 rfl rfl ?_
  refine a_iload_n 2 dM_text_65 rfl rfl ?_
  refine a_callV (Q' := m_res (some (.int 1)) (m_row (m_row (m_row (m_row I 95 (va_up (va_up (I 95) 0 (nI 0)) 10 (nI len))) 97 (va_up (I 97) 0 (nI 0))) 98 (va_up (I 98) 0 (nI 0))) 99 (va_up (I 99) 0 (-1))) J R) (as := [.int (nI 0), .int (nI 0)]) (st := []) dM_text_66 ml12_242 rfl (Nat.le_of_ble_eq_true rfl) ly_95 rfl rfl (by decide) (by omega) (Nat.le_of_ble_eq_true rfl) rfl (Nat.le_refl _) (Nat.le_refl _) (by have q := c_M_is (S := S) (d := d + 7) (n := n) (I := (m_row (m_row (m_row (m_row I 95 (va_up (va_up (I 95) 0 (nI 0)) 10 (nI len))) 97 (va_up (I 97) 0 (nI 0))) 98 (va_up (I 98) 0 (nI 0))) 99 (va_up (I 99) 0 (-1)))) (J := J) (R := R) (s := 0) (k := (nI 0)) hn hR (by decide); rw [show (m_row (m_row (m_row (m_row I 95 (va_up (va_up (I 95) 0 (nI 0)) 10 (nI len))) 97 (va_up (I 97) 0 (nI 0))) 98 (va_up (I 98) 0 (nI 0))) 99 (va_up (I 99) 0 (-1))) 100 0 = I 100 0 from rfl, h] at q; exact q) (m_go ?_)
  show AW _ _ _ _ _ _ _ _ [.int 1] _ _ _ _
  refine a_if_ne (tgt := 75) dM_text_69 (by decide) (fun _ => ?_) (fun c => False.elim (absurd c (by decide)))
  refine a_aload_n 0 dM_text_75 rfl rfl ?_
  refine a_iload_n 1 dM_text_76 rfl rfl ?_
  refine a_mem (show (m_row (m_row (m_row (m_row I 95 (va_up (va_up (I 95) 0 (nI 0)) 10 (nI len))) 97 (va_up (I 97) 0 (nI 0))) 98 (va_up (I 98) 0 (nI 0))) 99 (va_up (I 99) 0 (-1))) = mRd (m_row (m_row (m_row I 97 (va_up (I 97) 0 (nI 0))) 98 (va_up (I 98) 0 (nI 0))) 99 (va_up (I 99) 0 (-1))) (va_up (va_up (I 95) 0 (nI 0)) 10 (nI len)) (I 104) (I 105) from mR_in) ?_
  refine a_callV (Q' := rtQ (m_row (m_row (m_row I 97 (va_up (I 97) 0 (nI 0))) 98 (va_up (I 98) 0 (nI 0))) 99 (va_up (I 99) 0 (-1))) R (rdA (I 96) len 0 (len + 1) 0 (0, 0, -1, -1, DiA (I 104) 0))) (as := [.int (nI 0)]) (st := []) dM_text_77 ml12_245 rfl (Nat.le_of_ble_eq_true rfl) ly_95 rfl rfl (by decide) (by omega) (Nat.le_of_ble_eq_true rfl) rfl (Nat.le_refl _) (Nat.le_refl _) (r_readText (I := (m_row (m_row (m_row I 97 (va_up (I 97) 0 (nI 0))) 98 (va_up (I 98) 0 (nI 0))) 99 (va_up (I 99) 0 (-1)))) (F := (va_up (va_up (I 95) 0 (nI 0)) 10 (nI len))) (D := I 104) (A := I 105) hn hR hl6 hby rfl (by decide)) ?_
  intro v9 I9 J9 R9 ⟨e3, e1, g98, g99, g104, fr⟩
  rw [e3, e1, if_pos hf0]
  have g100 : I9 100 = I 100 := fr 100 (by decide) (by decide) (by decide) (by decide) (by decide)
  have gc : I9 101 = I 101 := fr 101 (by decide) (by decide) (by decide) (by decide) (by decide)
  refine a_mem (show I9 = m_row I9 100 (I9 100) from (m_row_self).symm) ?_
  show AW _ _ _ _ _ _ _ _ [.int (nI 1)] _ _ _ _
  refine a_if_ne (tgt := 85) dM_text_80 (by decide) (fun _ => ?_) (fun c => False.elim (absurd c (by decide)))
  refine a_iload_n 2 dM_text_85 rfl rfl ?_
  refine a_iconst (v := -1) dM_text_86 (by decide) ?_
  refine a_icmp_ne (tgt := 99) dM_text_87 (by decide) (fun _ => ?_) (fun c => False.elim (absurd c (by decide)))
  refine a_iload_n 2 dM_text_99 rfl rfl ?_
  refine a_istore_n (lv' := [(3, .int (nI 0)), (0, .ref 95), (1, .int (nI 0)), (2, .int (nI 0))]) dM_text_100 rfl (by decide) rfl ?_
  refine a_aload_n 1 dM_text_101 rfl rfl ?_
  refine a_geta (r := 100) dM_text_102 fl12_23 rfl ly_95 (by omega) (rf_95_5 hR) ?_
  refine a_iload_n 2 dM_text_105 rfl rfl ?_
  refine a_dup2 dM_text_106 rfl rfl ?_
  refine a_ialdN (a := 0) dM_text_107 ly_100 (by omega) (by omega) (by decide) ?_
  rw [show (m_row I9 100 (I9 100)) 100 0 = I9 100 0 from rfl]
  refine a_iload_n 3 dM_text_108 rfl rfl ?_
  refine a_iconst (v := -1) dM_text_109 (by decide) ?_
  refine a_icmp_ne (tgt := 117) dM_text_110 (by decide) (fun _ => ?_) (fun c => False.elim (absurd c (by decide)))
  refine a_iconstN (a := 0) dM_text_117 (by decide) ?_
  refine a_iadd dM_text_118 ?_
  refine a_iastN (a := 0) dM_text_119 ly_100 (by omega) (by omega) (by decide) ?_
  rw [show m_up (m_row I9 100 (I9 100)) 100 0 ((I9 100 0) + (nI 0)) = (m_row I9 100 (va_up (I9 100) 0 ((I9 100 0) + (nI 0)))) from (by rw [m_up_r])]
  refine a_iload_n 2 dM_text_120 rfl rfl ?_
  refine a_if_ne (tgt := 138) dM_text_121 (by decide) (fun c => False.elim (c rfl)) (fun _ => ?_)
  refine a_aload_n 1 dM_text_124 rfl rfl ?_
  refine a_aload_n 1 dM_text_125 rfl rfl ?_
  refine a_geta (r := 101) dM_text_126 fl12_26 rfl ly_95 (by omega) (rf_95_6 hR) ?_
  refine a_bipushN (a := 75) dM_text_129 (by decide) ?_
  refine a_iload_n 0 dM_text_131 rfl rfl ?_
  refine a_callV (Q' := m_res none (m_row (m_row I9 100 (va_up (I9 100) 0 ((I9 100 0) + (nI 0)))) 101 (stF ((m_row I9 100 (va_up (I9 100) 0 ((I9 100 0) + (nI 0)))) 104) ((m_row I9 100 (va_up (I9 100) 0 ((I9 100 0) + (nI 0)))) 101) (75 * 0) 75)) J9 R) (as := [.ref 101, .int (nI 75), .int (nI 0)]) (st := []) dM_text_132 ml12_248 rfl (Nat.le_of_ble_eq_true rfl) ly_95 rfl rfl (by decide) (by omega) (Nat.le_of_ble_eq_true rfl) rfl (Nat.le_refl _) (Nat.le_refl _) (c_store0 (S := S) (d := d + 8) (n := n) (I := (m_row I9 100 (va_up (I9 100) 0 ((I9 100 0) + (nI 0))))) (J := J9) (R := R) (k := 0) hn hR (by decide)) (m_go ?_)
  show AW _ _ _ _ _ _ _ _ [] _ _ _ _
  refine a_goto (tgt := 168) dM_text_135 (by decide) ?_
  refine a_iload_n 0 dM_text_168 rfl rfl ?_
  exact a_iret dM_text_169 rfl ⟨rfl, rfl, ((m_row_ne (by decide)).trans ((m_row_ne (by decide)).trans (fr 97 (by decide) (by decide) (by decide) (by decide) (by decide)))), ((m_row_ne (by decide)).trans ((m_row_ne (by decide)).trans (g98.trans (by rw [hf0]; exact vaUU)))), ((m_row_ne (by decide)).trans ((m_row_ne (by decide)).trans (g99.trans (by rw [if_pos hf0]; exact vaUU)))), (m_row_ne (by decide)).trans ((m_row_eq).trans (by rw [g100]; exact (va_ui2 (Int32.add_zero _).symm))), (m_row_eq).trans (by rw [m_row_ne (by decide), m_row_ne (by decide), g104 hf0, gc]), fun a ha => (m_row_ne (by omega)).trans ((m_row_ne (by omega)).trans ((fr a (by omega) (by omega) (by omega) (by omega) (by omega)).trans ((m_row_ne (by omega)).trans ((m_row_ne (by omega)).trans (m_row_ne (by omega))))))⟩
theorem q_M_text0o1 {S : Nat × (Nat → Int32)} {d n : Nat} {I : mI} {J : mJ} {R : mR} (hn : 122 ≤ n) (hR : m_fin R) {len : Nat} (hlen : I 97 0 = nI len) (hl6 : len ≤ 600) (hby : byT (I 96) len) (h : f_in (nI 1) 0 (I 100 0 - 1) = 1) (hf0 : (rdA (I 96) len 0 (len + 1) 0 (0, 0, -1, -1, DiA (I 104) 0)).f = 0)  : AW S (d + 9) YM_text n n (txN I R (nI 1) (nI 0) (-1) (I 100) 101 (stF (rdA (I 96) len 0 (len + 1) 0 (0, 0, -1, -1, DiA (I 104) 0)).D (I 101) (75 * 1) 75)) 0 [(0, .ref 95), (1, .int (nI 0)), (2, .int (nI 1))] [] I J R n := by
  refine a_mem (show I = (m_row (m_row (m_row (m_row I 95 (I 95)) 97 (I 97)) 98 (I 98)) 99 (I 99)) by rw [m_row_self, m_row_self, m_row_self, m_row_self]) ?_
  refine a_aload_n 0 dM_text_0 rfl rfl ?_
  refine a_iconstN (a := 0) dM_text_1 (by decide) ?_
  refine a_puti dM_text_2 fl12_90 rfl ly_95 (by omega) ?_
  rw [show m_up (m_row (m_row (m_row (m_row I 95 (I 95)) 97 (I 97)) 98 (I 98)) 99 (I 99)) 95 0 (nI 0) = (m_row (m_row (m_row (m_row I 95 (va_up (I 95) 0 (nI 0))) 97 (I 97)) 98 (I 98)) 99 (I 99)) from (by rw [m_up_comm (by decide), m_up_comm (by decide), m_up_comm (by decide), m_up_r])]
  refine a_aload_n 0 dM_text_5 rfl rfl ?_
  refine a_aload_n 0 dM_text_6 rfl rfl ?_
  refine a_geta (r := 97) dM_text_7 fl12_13 rfl ly_95 (by omega) (rf_95_2 hR) ?_
  refine a_iconstN (a := 0) dM_text_10 (by decide) ?_
  refine a_ialdN (a := 0) dM_text_11 ly_97 (by omega) (by omega) (by decide) ?_
  rw [show (m_row (m_row (m_row (m_row I 95 (va_up (I 95) 0 (nI 0))) 97 (I 97)) 98 (I 98)) 99 (I 99)) 97 0 = (nI len) from hlen]
  refine a_puti dM_text_12 fl12_113 rfl ly_95 (by omega) ?_
  rw [show m_up (m_row (m_row (m_row (m_row I 95 (va_up (I 95) 0 (nI 0))) 97 (I 97)) 98 (I 98)) 99 (I 99)) 95 10 (nI len) = (m_row (m_row (m_row (m_row I 95 (va_up (va_up (I 95) 0 (nI 0)) 10 (nI len))) 97 (I 97)) 98 (I 98)) 99 (I 99)) from (by rw [m_up_comm (by decide), m_up_comm (by decide), m_up_comm (by decide), m_up_r])]
  refine a_aload_n 0 dM_text_15 rfl rfl ?_
  refine a_geta (r := 97) dM_text_16 fl12_13 rfl ly_95 (by omega) (rf_95_2 hR) ?_
  refine a_iconstN (a := 0) dM_text_19 (by decide) ?_
  refine a_iconstN (a := 0) dM_text_20 (by decide) ?_
  refine a_iastN (a := 0) dM_text_21 ly_97 (by omega) (by omega) (by decide) ?_
  rw [show m_up (m_row (m_row (m_row (m_row I 95 (va_up (va_up (I 95) 0 (nI 0)) 10 (nI len))) 97 (I 97)) 98 (I 98)) 99 (I 99)) 97 0 (nI 0) = (m_row (m_row (m_row (m_row I 95 (va_up (va_up (I 95) 0 (nI 0)) 10 (nI len))) 97 (va_up (I 97) 0 (nI 0))) 98 (I 98)) 99 (I 99)) from (by rw [m_up_comm (by decide), m_up_comm (by decide), m_up_r])]
  refine a_aload_n 0 dM_text_22 rfl rfl ?_
  refine a_geta (r := 98) dM_text_23 fl12_17 rfl ly_95 (by omega) (rf_95_3 hR) ?_
  refine a_iconstN (a := 0) dM_text_26 (by decide) ?_
  refine a_iconstN (a := 0) dM_text_27 (by decide) ?_
  refine a_iastN (a := 0) dM_text_28 ly_98 (by omega) (by omega) (by decide) ?_
  rw [show m_up (m_row (m_row (m_row (m_row I 95 (va_up (va_up (I 95) 0 (nI 0)) 10 (nI len))) 97 (va_up (I 97) 0 (nI 0))) 98 (I 98)) 99 (I 99)) 98 0 (nI 0) = (m_row (m_row (m_row (m_row I 95 (va_up (va_up (I 95) 0 (nI 0)) 10 (nI len))) 97 (va_up (I 97) 0 (nI 0))) 98 (va_up (I 98) 0 (nI 0))) 99 (I 99)) from (by rw [m_up_comm (by decide), m_up_r])]
  refine a_aload_n 0 dM_text_29 rfl rfl ?_
  refine a_geta (r := 99) dM_text_30 fl12_20 rfl ly_95 (by omega) (rf_95_4 hR) ?_
  refine a_iconstN (a := 0) dM_text_33 (by decide) ?_
  refine a_iconst (v := -1) dM_text_34 (by decide) ?_
  refine a_iastN (a := 0) dM_text_35 ly_99 (by omega) (by omega) (by decide) ?_
  rw [show m_up (m_row (m_row (m_row (m_row I 95 (va_up (va_up (I 95) 0 (nI 0)) 10 (nI len))) 97 (va_up (I 97) 0 (nI 0))) 98 (va_up (I 98) 0 (nI 0))) 99 (I 99)) 99 0 (-1) = (m_row (m_row (m_row (m_row I 95 (va_up (va_up (I 95) 0 (nI 0)) 10 (nI len))) 97 (va_up (I 97) 0 (nI 0))) 98 (va_up (I 98) 0 (nI 0))) 99 (va_up (I 99) 0 (-1))) from (by rw [m_up_r])]
  refine a_iload_n 1 dM_text_36 rfl rfl ?_
  refine a_iconstN (a := 0) dM_text_37 (by decide) ?_
  refine a_iconstN (a := 2) dM_text_38 (by decide) ?_
  refine a_callS (Q' := m_res (some (.int 1)) (m_row (m_row (m_row (m_row I 95 (va_up (va_up (I 95) 0 (nI 0)) 10 (nI len))) 97 (va_up (I 97) 0 (nI 0))) 98 (va_up (I 98) 0 (nI 0))) 99 (va_up (I 99) 0 (-1))) J R) (as := [.int (nI 0), .int (nI 0), .int (nI 2)]) (st := []) dM_text_39 ml12_102 rfl (Nat.le_of_ble_eq_true rfl) (Nat.le_of_ble_eq_true rfl) rfl (Nat.le_refl _) (Nat.le_refl _) (c_M_inE (f_in_n (by decide) (by decide) (by decide))) (m_go ?_)
  show AW _ _ _ _ _ _ _ _ [.int 1] _ _ _ _
  refine a_if_eq (tgt := 72) dM_text_42 (by decide) (fun c => False.elim (absurd c (by decide))) (fun _ => ?_)
  refine a_iload_n 2 dM_text_45 rfl rfl ?_
  refine a_iconst (v := -1) dM_text_46 (by decide) ?_
  refine a_icmp_ne (tgt := 63) dM_text_47 (by decide) (fun _ => ?_) (fun c => False.elim (absurd c (by decide)))
  refine a_aload_n 0 dM_text_63 rfl rfl ?_
  refine a_iload_n 1 dM_text_64 rfl rfl ?_
  refine a_iload_n 2 dM_text_65 rfl rfl ?_
  refine a_callV (Q' := m_res (some (.int 1)) (m_row (m_row (m_row (m_row I 95 (va_up (va_up (I 95) 0 (nI 0)) 10 (nI len))) 97 (va_up (I 97) 0 (nI 0))) 98 (va_up (I 98) 0 (nI 0))) 99 (va_up (I 99) 0 (-1))) J R) (as := [.int (nI 0), .int (nI 1)]) (st := []) dM_text_66 ml12_242 rfl (Nat.le_of_ble_eq_true rfl) ly_95 rfl rfl (by decide) (by omega) (Nat.le_of_ble_eq_true rfl) rfl (Nat.le_refl _) (Nat.le_refl _) (by have q := c_M_is (S := S) (d := d + 7) (n := n) (I := (m_row (m_row (m_row (m_row I 95 (va_up (va_up (I 95) 0 (nI 0)) 10 (nI len))) 97 (va_up (I 97) 0 (nI 0))) 98 (va_up (I 98) 0 (nI 0))) 99 (va_up (I 99) 0 (-1)))) (J := J) (R := R) (s := 0) (k := (nI 1)) hn hR (by decide); rw [show (m_row (m_row (m_row (m_row I 95 (va_up (va_up (I 95) 0 (nI 0)) 10 (nI len))) 97 (va_up (I 97) 0 (nI 0))) 98 (va_up (I 98) 0 (nI 0))) 99 (va_up (I 99) 0 (-1))) 100 0 = I 100 0 from rfl, h] at q; exact q) (m_go ?_)
  show AW _ _ _ _ _ _ _ _ [.int 1] _ _ _ _
  refine a_if_ne (tgt := 75) dM_text_69 (by decide) (fun _ => ?_) (fun c => False.elim (absurd c (by decide)))
  refine a_aload_n 0 dM_text_75 rfl rfl ?_
  refine a_iload_n 1 dM_text_76 rfl rfl ?_
  refine a_mem (show (m_row (m_row (m_row (m_row I 95 (va_up (va_up (I 95) 0 (nI 0)) 10 (nI len))) 97 (va_up (I 97) 0 (nI 0))) 98 (va_up (I 98) 0 (nI 0))) 99 (va_up (I 99) 0 (-1))) = mRd (m_row (m_row (m_row I 97 (va_up (I 97) 0 (nI 0))) 98 (va_up (I 98) 0 (nI 0))) 99 (va_up (I 99) 0 (-1))) (va_up (va_up (I 95) 0 (nI 0)) 10 (nI len)) (I 104) (I 105) from mR_in) ?_
  refine a_callV (Q' := rtQ (m_row (m_row (m_row I 97 (va_up (I 97) 0 (nI 0))) 98 (va_up (I 98) 0 (nI 0))) 99 (va_up (I 99) 0 (-1))) R (rdA (I 96) len 0 (len + 1) 0 (0, 0, -1, -1, DiA (I 104) 0))) (as := [.int (nI 0)]) (st := []) dM_text_77 ml12_245 rfl (Nat.le_of_ble_eq_true rfl) ly_95 rfl rfl (by decide) (by omega) (Nat.le_of_ble_eq_true rfl) rfl (Nat.le_refl _) (Nat.le_refl _) (r_readText (I := (m_row (m_row (m_row I 97 (va_up (I 97) 0 (nI 0))) 98 (va_up (I 98) 0 (nI 0))) 99 (va_up (I 99) 0 (-1)))) (F := (va_up (va_up (I 95) 0 (nI 0)) 10 (nI len))) (D := I 104) (A := I 105) hn hR hl6 hby rfl (by decide)) ?_
  intro v9 I9 J9 R9 ⟨e3, e1, g98, g99, g104, fr⟩
  rw [e3, e1, if_pos hf0]
  have g100 : I9 100 = I 100 := fr 100 (by decide) (by decide) (by decide) (by decide) (by decide)
  have gc : I9 101 = I 101 := fr 101 (by decide) (by decide) (by decide) (by decide) (by decide)
  refine a_mem (show I9 = m_row I9 100 (I9 100) from (m_row_self).symm) ?_
  show AW _ _ _ _ _ _ _ _ [.int (nI 1)] _ _ _ _
  refine a_if_ne (tgt := 85) dM_text_80 (by decide) (fun _ => ?_) (fun c => False.elim (absurd c (by decide)))
  refine a_iload_n 2 dM_text_85 rfl rfl ?_
  refine a_iconst (v := -1) dM_text_86 (by decide) ?_
  refine a_icmp_ne (tgt := 99) dM_text_87 (by decide) (fun _ => ?_) (fun c => False.elim (absurd c (by decide)))
  refine a_iload_n 2 dM_text_99 rfl rfl ?_
  refine a_istore_n (lv' := [(3, .int (nI 1)), (0, .ref 95), (1, .int (nI 0)), (2, .int (nI 1))]) dM_text_100 rfl (by decide) rfl ?_
  refine a_aload_n 1 dM_text_101 rfl rfl ?_
  refine a_geta (r := 100) dM_text_102 fl12_23 rfl ly_95 (by omega) (rf_95_5 hR) ?_
  refine a_iload_n 2 dM_text_105 rfl rfl ?_
  refine a_dup2 dM_text_106 rfl rfl ?_
  refine a_ialdN (a := 0) dM_text_107 ly_100 (by omega) (by omega) (by decide) ?_
  rw [show (m_row I9 100 (I9 100)) 100 0 = I9 100 0 from rfl]
  refine a_iload_n 3 dM_text_108 rfl rfl ?_
  refine a_iconst (v := -1) dM_text_109 (by decide) ?_
  refine a_icmp_ne (tgt := 117) dM_text_110 (by decide) (fun _ => ?_) (fun c => False.elim (absurd c (by decide)))
  refine a_iconstN (a := 0) dM_text_117 (by decide) ?_
  refine a_iadd dM_text_118 ?_
  refine a_iastN (a := 0) dM_text_119 ly_100 (by omega) (by omega) (by decide) ?_
  rw [show m_up (m_row I9 100 (I9 100)) 100 0 ((I9 100 0) + (nI 0)) = (m_row I9 100 (va_up (I9 100) 0 ((I9 100 0) + (nI 0)))) from (by rw [m_up_r])]
  refine a_iload_n 2 dM_text_120 rfl rfl ?_
  refine a_if_ne (tgt := 138) dM_text_121 (by decide) (fun c => False.elim (c rfl)) (fun _ => ?_)
  refine a_aload_n 1 dM_text_124 rfl rfl ?_
  refine a_aload_n 1 dM_text_125 rfl rfl ?_
  refine a_geta (r := 101) dM_text_126 fl12_26 rfl ly_95 (by omega) (rf_95_6 hR) ?_
  refine a_bipushN (a := 75) dM_text_129 (by decide) ?_
  refine a_iload_n 0 dM_text_131 rfl rfl ?_
  refine a_callV (Q' := m_res none (m_row (m_row I9 100 (va_up (I9 100) 0 ((I9 100 0) + (nI 0)))) 101 (stF ((m_row I9 100 (va_up (I9 100) 0 ((I9 100 0) + (nI 0)))) 104) ((m_row I9 100 (va_up (I9 100) 0 ((I9 100 0) + (nI 0)))) 101) (75 * 1) 75)) J9 R) (as := [.ref 101, .int (nI 75), .int (nI 1)]) (st := []) dM_text_132 ml12_248 rfl (Nat.le_of_ble_eq_true rfl) ly_95 rfl rfl (by decide) (by omega) (Nat.le_of_ble_eq_true rfl) rfl (Nat.le_refl _) (Nat.le_refl _) (c_store0 (S := S) (d := d + 8) (n := n) (I := (m_row I9 100 (va_up (I9 100) 0 ((I9 100 0) + (nI 0))))) (J := J9) (R := R) (k := 1) hn hR (by decide)) (m_go ?_)
  show AW _ _ _ _ _ _ _ _ [] _ _ _ _
  refine a_goto (tgt := 168) dM_text_135 (by decide) ?_
  refine a_iload_n 0 dM_text_168 rfl rfl ?_
  exact a_iret dM_text_169 rfl ⟨rfl, rfl, ((m_row_ne (by decide)).trans ((m_row_ne (by decide)).trans (fr 97 (by decide) (by decide) (by decide) (by decide) (by decide)))), ((m_row_ne (by decide)).trans ((m_row_ne (by decide)).trans (g98.trans (by rw [hf0]; exact vaUU)))), ((m_row_ne (by decide)).trans ((m_row_ne (by decide)).trans (g99.trans (by rw [if_pos hf0]; exact vaUU)))), (m_row_ne (by decide)).trans ((m_row_eq).trans (by rw [g100]; exact (va_ui2 (Int32.add_zero _).symm))), (m_row_eq).trans (by rw [m_row_ne (by decide), m_row_ne (by decide), g104 hf0, gc]), fun a ha => (m_row_ne (by omega)).trans ((m_row_ne (by omega)).trans ((fr a (by omega) (by omega) (by omega) (by omega) (by omega)).trans ((m_row_ne (by omega)).trans ((m_row_ne (by omega)).trans (m_row_ne (by omega))))))⟩
theorem q_M_text1nF {S : Nat × (Nat → Int32)} {d n : Nat} {I : mI} {J : mJ} {R : mR} (hn : 122 ≤ n) (hR : m_fin R) {len : Nat} (hlen : I 97 0 = nI len) (hl6 : len ≤ 600) (hby : byT (I 96) len) (h : ¬ I 100 1 = nI 2) (hf0 : ¬ (rdA (I 96) len 1 (len + 1) 0 (0, 0, -1, -1, DiA (I 104) 1)).f = 0)  : AW S (d + 9) YM_text n n (txN I R (-1) (nI (rdA (I 96) len 1 (len + 1) 0 (0, 0, -1, -1, DiA (I 104) 1)).f) (nI (rdA (I 96) len 1 (len + 1) 0 (0, 0, -1, -1, DiA (I 104) 1)).pl) (I 100) 101 (I 101)) 0 [(0, .ref 95), (1, .int (nI 1)), (2, .int (-1))] [] I J R n := by
  refine a_mem (show I = (m_row (m_row (m_row (m_row I 95 (I 95)) 97 (I 97)) 98 (I 98)) 99 (I 99)) by rw [m_row_self, m_row_self, m_row_self, m_row_self]) ?_
  refine a_aload_n 0 dM_text_0 rfl rfl ?_
  refine a_iconstN (a := 0) dM_text_1 (by decide) ?_
  refine a_puti dM_text_2 fl12_90 rfl ly_95 (by omega) ?_
  rw [show m_up (m_row (m_row (m_row (m_row I 95 (I 95)) 97 (I 97)) 98 (I 98)) 99 (I 99)) 95 0 (nI 0) = (m_row (m_row (m_row (m_row I 95 (va_up (I 95) 0 (nI 0))) 97 (I 97)) 98 (I 98)) 99 (I 99)) from (by rw [m_up_comm (by decide), m_up_comm (by decide), m_up_comm (by decide), m_up_r])]
  refine a_aload_n 0 dM_text_5 rfl rfl ?_
  refine a_aload_n 0 dM_text_6 rfl rfl ?_
  refine a_geta (r := 97) dM_text_7 fl12_13 rfl ly_95 (by omega) (rf_95_2 hR) ?_
  refine a_iconstN (a := 0) dM_text_10 (by decide) ?_
  refine a_ialdN (a := 0) dM_text_11 ly_97 (by omega) (by omega) (by decide) ?_
  rw [show (m_row (m_row (m_row (m_row I 95 (va_up (I 95) 0 (nI 0))) 97 (I 97)) 98 (I 98)) 99 (I 99)) 97 0 = (nI len) from hlen]
  refine a_puti dM_text_12 fl12_113 rfl ly_95 (by omega) ?_
  rw [show m_up (m_row (m_row (m_row (m_row I 95 (va_up (I 95) 0 (nI 0))) 97 (I 97)) 98 (I 98)) 99 (I 99)) 95 10 (nI len) = (m_row (m_row (m_row (m_row I 95 (va_up (va_up (I 95) 0 (nI 0)) 10 (nI len))) 97 (I 97)) 98 (I 98)) 99 (I 99)) from (by rw [m_up_comm (by decide), m_up_comm (by decide), m_up_comm (by decide), m_up_r])]
  refine a_aload_n 0 dM_text_15 rfl rfl ?_
  refine a_geta (r := 97) dM_text_16 fl12_13 rfl ly_95 (by omega) (rf_95_2 hR) ?_
  refine a_iconstN (a := 0) dM_text_19 (by decide) ?_
  refine a_iconstN (a := 0) dM_text_20 (by decide) ?_
  refine a_iastN (a := 0) dM_text_21 ly_97 (by omega) (by omega) (by decide) ?_
  rw [show m_up (m_row (m_row (m_row (m_row I 95 (va_up (va_up (I 95) 0 (nI 0)) 10 (nI len))) 97 (I 97)) 98 (I 98)) 99 (I 99)) 97 0 (nI 0) = (m_row (m_row (m_row (m_row I 95 (va_up (va_up (I 95) 0 (nI 0)) 10 (nI len))) 97 (va_up (I 97) 0 (nI 0))) 98 (I 98)) 99 (I 99)) from (by rw [m_up_comm (by decide), m_up_comm (by decide), m_up_r])]
  refine a_aload_n 0 dM_text_22 rfl rfl ?_
  refine a_geta (r := 98) dM_text_23 fl12_17 rfl ly_95 (by omega) (rf_95_3 hR) ?_
  refine a_iconstN (a := 0) dM_text_26 (by decide) ?_
  refine a_iconstN (a := 0) dM_text_27 (by decide) ?_
  refine a_iastN (a := 0) dM_text_28 ly_98 (by omega) (by omega) (by decide) ?_
  rw [show m_up (m_row (m_row (m_row (m_row I 95 (va_up (va_up (I 95) 0 (nI 0)) 10 (nI len))) 97 (va_up (I 97) 0 (nI 0))) 98 (I 98)) 99 (I 99)) 98 0 (nI 0) = (m_row (m_row (m_row (m_row I 95 (va_up (va_up (I 95) 0 (nI 0)) 10 (nI len))) 97 (va_up (I 97) 0 (nI 0))) 98 (va_up (I 98) 0 (nI 0))) 99 (I 99)) from (by rw [m_up_comm (by decide), m_up_r])]
  refine a_aload_n 0 dM_text_29 rfl rfl ?_
  refine a_geta (r := 99) dM_text_30 fl12_20 rfl ly_95 (by omega) (rf_95_4 hR) ?_
  refine a_iconstN (a := 0) dM_text_33 (by decide) ?_
  refine a_iconst (v := -1) dM_text_34 (by decide) ?_
  refine a_iastN (a := 0) dM_text_35 ly_99 (by omega) (by omega) (by decide) ?_
  rw [show m_up (m_row (m_row (m_row (m_row I 95 (va_up (va_up (I 95) 0 (nI 0)) 10 (nI len))) 97 (va_up (I 97) 0 (nI 0))) 98 (va_up (I 98) 0 (nI 0))) 99 (I 99)) 99 0 (-1) = (m_row (m_row (m_row (m_row I 95 (va_up (va_up (I 95) 0 (nI 0)) 10 (nI len))) 97 (va_up (I 97) 0 (nI 0))) 98 (va_up (I 98) 0 (nI 0))) 99 (va_up (I 99) 0 (-1))) from (by rw [m_up_r])]
  refine a_iload_n 1 dM_text_36 rfl rfl ?_
  refine a_iconstN (a := 0) dM_text_37 (by decide) ?_
  refine a_iconstN (a := 2) dM_text_38 (by decide) ?_
  refine a_callS (Q' := m_res (some (.int 1)) (m_row (m_row (m_row (m_row I 95 (va_up (va_up (I 95) 0 (nI 0)) 10 (nI len))) 97 (va_up (I 97) 0 (nI 0))) 98 (va_up (I 98) 0 (nI 0))) 99 (va_up (I 99) 0 (-1))) J R) (as := [.int (nI 1), .int (nI 0), .int (nI 2)]) (st := []) dM_text_39 ml12_102 rfl (Nat.le_of_ble_eq_true rfl) (Nat.le_of_ble_eq_true rfl) rfl (Nat.le_refl _) (Nat.le_refl _) (c_M_inE (f_in_n (by decide) (by decide) (by decide))) (m_go ?_)
  show AW _ _ _ _ _ _ _ _ [.int 1] _ _ _ _
  refine a_if_eq (tgt := 72) dM_text_42 (by decide) (fun c => False.elim (absurd c (by decide))) (fun _ => ?_)
  refine a_iload_n 2 dM_text_45 rfl rfl ?_
  refine a_iconst (v := -1) dM_text_46 (by decide) ?_
  refine a_icmp_ne (tgt := 63) dM_text_47 (by decide) (fun c => False.elim (c rfl)) (fun _ => ?_)
  refine a_aload_n 0 dM_text_50 rfl rfl ?_
  refine a_geta (r := 100) dM_text_51 fl12_23 rfl ly_95 (by omega) (rf_95_5 hR) ?_
  refine a_iload_n 1 dM_text_54 rfl rfl ?_
  refine a_ialdN (a := 1) dM_text_55 ly_100 (by omega) (by omega) (by decide) ?_
  rw [show (m_row (m_row (m_row (m_row I 95 (va_up (va_up (I 95) 0 (nI 0)) 10 (nI len))) 97 (va_up (I 97) 0 (nI 0))) 98 (va_up (I 98) 0 (nI 0))) 99 (va_up (I 99) 0 (-1))) 100 1 = I 100 1 from rfl]
  refine a_iconstN (a := 2) dM_text_56 (by decide) ?_
  refine a_icmp_ne (tgt := 75) dM_text_57 (by decide) (fun _ => ?_) (fun c => False.elim (h c))
  refine a_aload_n 0 dM_text_75 rfl rfl ?_
  refine a_iload_n 1 dM_text_76 rfl rfl ?_
  refine a_mem (show (m_row (m_row (m_row (m_row I 95 (va_up (va_up (I 95) 0 (nI 0)) 10 (nI len))) 97 (va_up (I 97) 0 (nI 0))) 98 (va_up (I 98) 0 (nI 0))) 99 (va_up (I 99) 0 (-1))) = mRd (m_row (m_row (m_row I 97 (va_up (I 97) 0 (nI 0))) 98 (va_up (I 98) 0 (nI 0))) 99 (va_up (I 99) 0 (-1))) (va_up (va_up (I 95) 0 (nI 0)) 10 (nI len)) (I 104) (I 105) from mR_in) ?_
  refine a_callV (Q' := rtQ (m_row (m_row (m_row I 97 (va_up (I 97) 0 (nI 0))) 98 (va_up (I 98) 0 (nI 0))) 99 (va_up (I 99) 0 (-1))) R (rdA (I 96) len 1 (len + 1) 0 (0, 0, -1, -1, DiA (I 104) 1))) (as := [.int (nI 1)]) (st := []) dM_text_77 ml12_245 rfl (Nat.le_of_ble_eq_true rfl) ly_95 rfl rfl (by decide) (by omega) (Nat.le_of_ble_eq_true rfl) rfl (Nat.le_refl _) (Nat.le_refl _) (r_readText (I := (m_row (m_row (m_row I 97 (va_up (I 97) 0 (nI 0))) 98 (va_up (I 98) 0 (nI 0))) 99 (va_up (I 99) 0 (-1)))) (F := (va_up (va_up (I 95) 0 (nI 0)) 10 (nI len))) (D := I 104) (A := I 105) hn hR hl6 hby rfl (by decide)) ?_
  intro v9 I9 J9 R9 ⟨e3, e1, g98, g99, g104, fr⟩
  rw [e3, e1, if_neg hf0]
  show AW _ _ _ _ _ _ _ _ [.int (nI 0)] _ _ _ _
  refine a_if_ne (tgt := 85) dM_text_80 (by decide) (fun c => False.elim (c rfl)) (fun _ => ?_)
  refine a_iconst (v := -1) dM_text_83 (by decide) ?_
  exact a_iret dM_text_84 rfl ⟨rfl, rfl, fr 97 (by decide) (by decide) (by decide) (by decide) (by decide), g98.trans (by show va_up (va_up (I 98) 0 (nI 0)) 0 _ = _; exact vaUU), g99.trans (by rw [if_neg hf0]; exact vaUU), fr 100 (by decide) (by decide) (by decide) (by decide) (by decide), fr 101 (by decide) (by decide) (by decide) (by decide) (by decide), fun a ha => (fr a (by omega) (by omega) (by omega) (by omega) (by omega)).trans ((m_row_ne (by omega)).trans ((m_row_ne (by omega)).trans (m_row_ne (by omega))))⟩
theorem q_M_text1n0 {S : Nat × (Nat → Int32)} {d n : Nat} {I : mI} {J : mJ} {R : mR} (hn : 122 ≤ n) (hR : m_fin R) {len : Nat} (hlen : I 97 0 = nI len) (hl6 : len ≤ 600) (hby : byT (I 96) len) (h3 : I 100 1 = nI 0) (hf0 : (rdA (I 96) len 1 (len + 1) 0 (0, 0, -1, -1, DiA (I 104) 1)).f = 0)  : AW S (d + 9) YM_text n n (txN I R (nI 0) (nI 0) (-1) (va_up (I 100) 1 (nI 1)) 102 (stF (rdA (I 96) len 1 (len + 1) 0 (0, 0, -1, -1, DiA (I 104) 1)).D (I 102) (121 * 0) 121)) 0 [(0, .ref 95), (1, .int (nI 1)), (2, .int (-1))] [] I J R n := by
  refine a_mem (show I = (m_row (m_row (m_row (m_row I 95 (I 95)) 97 (I 97)) 98 (I 98)) 99 (I 99)) by rw [m_row_self, m_row_self, m_row_self, m_row_self]) ?_
  refine a_aload_n 0 dM_text_0 rfl rfl ?_
  refine a_iconstN (a := 0) dM_text_1 (by decide) ?_
  refine a_puti dM_text_2 fl12_90 rfl ly_95 (by omega) ?_
  rw [show m_up (m_row (m_row (m_row (m_row I 95 (I 95)) 97 (I 97)) 98 (I 98)) 99 (I 99)) 95 0 (nI 0) = (m_row (m_row (m_row (m_row I 95 (va_up (I 95) 0 (nI 0))) 97 (I 97)) 98 (I 98)) 99 (I 99)) from (by rw [m_up_comm (by decide), m_up_comm (by decide), m_up_comm (by decide), m_up_r])]
  refine a_aload_n 0 dM_text_5 rfl rfl ?_
  refine a_aload_n 0 dM_text_6 rfl rfl ?_
  refine a_geta (r := 97) dM_text_7 fl12_13 rfl ly_95 (by omega) (rf_95_2 hR) ?_
  refine a_iconstN (a := 0) dM_text_10 (by decide) ?_
  refine a_ialdN (a := 0) dM_text_11 ly_97 (by omega) (by omega) (by decide) ?_
  rw [show (m_row (m_row (m_row (m_row I 95 (va_up (I 95) 0 (nI 0))) 97 (I 97)) 98 (I 98)) 99 (I 99)) 97 0 = (nI len) from hlen]
  refine a_puti dM_text_12 fl12_113 rfl ly_95 (by omega) ?_
  rw [show m_up (m_row (m_row (m_row (m_row I 95 (va_up (I 95) 0 (nI 0))) 97 (I 97)) 98 (I 98)) 99 (I 99)) 95 10 (nI len) = (m_row (m_row (m_row (m_row I 95 (va_up (va_up (I 95) 0 (nI 0)) 10 (nI len))) 97 (I 97)) 98 (I 98)) 99 (I 99)) from (by rw [m_up_comm (by decide), m_up_comm (by decide), m_up_comm (by decide), m_up_r])]
  refine a_aload_n 0 dM_text_15 rfl rfl ?_
  refine a_geta (r := 97) dM_text_16 fl12_13 rfl ly_95 (by omega) (rf_95_2 hR) ?_
  refine a_iconstN (a := 0) dM_text_19 (by decide) ?_
  refine a_iconstN (a := 0) dM_text_20 (by decide) ?_
  refine a_iastN (a := 0) dM_text_21 ly_97 (by omega) (by omega) (by decide) ?_
  rw [show m_up (m_row (m_row (m_row (m_row I 95 (va_up (va_up (I 95) 0 (nI 0)) 10 (nI len))) 97 (I 97)) 98 (I 98)) 99 (I 99)) 97 0 (nI 0) = (m_row (m_row (m_row (m_row I 95 (va_up (va_up (I 95) 0 (nI 0)) 10 (nI len))) 97 (va_up (I 97) 0 (nI 0))) 98 (I 98)) 99 (I 99)) from (by rw [m_up_comm (by decide), m_up_comm (by decide), m_up_r])]
  refine a_aload_n 0 dM_text_22 rfl rfl ?_
  refine a_geta (r := 98) dM_text_23 fl12_17 rfl ly_95 (by omega) (rf_95_3 hR) ?_
  refine a_iconstN (a := 0) dM_text_26 (by decide) ?_
  refine a_iconstN (a := 0) dM_text_27 (by decide) ?_
  refine a_iastN (a := 0) dM_text_28 ly_98 (by omega) (by omega) (by decide) ?_
  rw [show m_up (m_row (m_row (m_row (m_row I 95 (va_up (va_up (I 95) 0 (nI 0)) 10 (nI len))) 97 (va_up (I 97) 0 (nI 0))) 98 (I 98)) 99 (I 99)) 98 0 (nI 0) = (m_row (m_row (m_row (m_row I 95 (va_up (va_up (I 95) 0 (nI 0)) 10 (nI len))) 97 (va_up (I 97) 0 (nI 0))) 98 (va_up (I 98) 0 (nI 0))) 99 (I 99)) from (by rw [m_up_comm (by decide), m_up_r])]
  refine a_aload_n 0 dM_text_29 rfl rfl ?_
  refine a_geta (r := 99) dM_text_30 fl12_20 rfl ly_95 (by omega) (rf_95_4 hR) ?_
  refine a_iconstN (a := 0) dM_text_33 (by decide) ?_
  refine a_iconst (v := -1) dM_text_34 (by decide) ?_
  refine a_iastN (a := 0) dM_text_35 ly_99 (by omega) (by omega) (by decide) ?_
  rw [show m_up (m_row (m_row (m_row (m_row I 95 (va_up (va_up (I 95) 0 (nI 0)) 10 (nI len))) 97 (va_up (I 97) 0 (nI 0))) 98 (va_up (I 98) 0 (nI 0))) 99 (I 99)) 99 0 (-1) = (m_row (m_row (m_row (m_row I 95 (va_up (va_up (I 95) 0 (nI 0)) 10 (nI len))) 97 (va_up (I 97) 0 (nI 0))) 98 (va_up (I 98) 0 (nI 0))) 99 (va_up (I 99) 0 (-1))) from (by rw [m_up_r])]
  refine a_iload_n 1 dM_text_36 rfl rfl ?_
  refine a_iconstN (a := 0) dM_text_37 (by decide) ?_
  refine a_iconstN (a := 2) dM_text_38 (by decide) ?_
  refine a_callS (Q' := m_res (some (.int 1)) (m_row (m_row (m_row (m_row I 95 (va_up (va_up (I 95) 0 (nI 0)) 10 (nI len))) 97 (va_up (I 97) 0 (nI 0))) 98 (va_up (I 98) 0 (nI 0))) 99 (va_up (I 99) 0 (-1))) J R) (as := [.int (nI 1), .int (nI 0), .int (nI 2)]) (st := []) dM_text_39 ml12_102 rfl (Nat.le_of_ble_eq_true rfl) (Nat.le_of_ble_eq_true rfl) rfl (Nat.le_refl _) (Nat.le_refl _) (c_M_inE (f_in_n (by decide) (by decide) (by decide))) (m_go ?_)
  show AW _ _ _ _ _ _ _ _ [.int 1] _ _ _ _
  refine a_if_eq (tgt := 72) dM_text_42 (by decide) (fun c => False.elim (absurd c (by decide))) (fun _ => ?_)
  refine a_iload_n 2 dM_text_45 rfl rfl ?_
  refine a_iconst (v := -1) dM_text_46 (by decide) ?_
  refine a_icmp_ne (tgt := 63) dM_text_47 (by decide) (fun c => False.elim (c rfl)) (fun _ => ?_)
  refine a_aload_n 0 dM_text_50 rfl rfl ?_
  refine a_geta (r := 100) dM_text_51 fl12_23 rfl ly_95 (by omega) (rf_95_5 hR) ?_
  refine a_iload_n 1 dM_text_54 rfl rfl ?_
  refine a_ialdN (a := 1) dM_text_55 ly_100 (by omega) (by omega) (by decide) ?_
  rw [show (m_row (m_row (m_row (m_row I 95 (va_up (va_up (I 95) 0 (nI 0)) 10 (nI len))) 97 (va_up (I 97) 0 (nI 0))) 98 (va_up (I 98) 0 (nI 0))) 99 (va_up (I 99) 0 (-1))) 100 1 = I 100 1 from rfl]
  refine a_iconstN (a := 2) dM_text_56 (by decide) ?_
  refine a_icmp_ne (tgt := 75) dM_text_57 (by decide) (fun _ => ?_) (fun c => False.elim (absurd (h3.symm.trans c) (by decide)))
  refine a_aload_n 0 dM_text_75 rfl rfl ?_
  refine a_iload_n 1 dM_text_76 rfl rfl ?_
  refine a_mem (show (m_row (m_row (m_row (m_row I 95 (va_up (va_up (I 95) 0 (nI 0)) 10 (nI len))) 97 (va_up (I 97) 0 (nI 0))) 98 (va_up (I 98) 0 (nI 0))) 99 (va_up (I 99) 0 (-1))) = mRd (m_row (m_row (m_row I 97 (va_up (I 97) 0 (nI 0))) 98 (va_up (I 98) 0 (nI 0))) 99 (va_up (I 99) 0 (-1))) (va_up (va_up (I 95) 0 (nI 0)) 10 (nI len)) (I 104) (I 105) from mR_in) ?_
  refine a_callV (Q' := rtQ (m_row (m_row (m_row I 97 (va_up (I 97) 0 (nI 0))) 98 (va_up (I 98) 0 (nI 0))) 99 (va_up (I 99) 0 (-1))) R (rdA (I 96) len 1 (len + 1) 0 (0, 0, -1, -1, DiA (I 104) 1))) (as := [.int (nI 1)]) (st := []) dM_text_77 ml12_245 rfl (Nat.le_of_ble_eq_true rfl) ly_95 rfl rfl (by decide) (by omega) (Nat.le_of_ble_eq_true rfl) rfl (Nat.le_refl _) (Nat.le_refl _) (r_readText (I := (m_row (m_row (m_row I 97 (va_up (I 97) 0 (nI 0))) 98 (va_up (I 98) 0 (nI 0))) 99 (va_up (I 99) 0 (-1)))) (F := (va_up (va_up (I 95) 0 (nI 0)) 10 (nI len))) (D := I 104) (A := I 105) hn hR hl6 hby rfl (by decide)) ?_
  intro v9 I9 J9 R9 ⟨e3, e1, g98, g99, g104, fr⟩
  rw [e3, e1, if_pos hf0]
  have g100 : I9 100 = I 100 := fr 100 (by decide) (by decide) (by decide) (by decide) (by decide)
  have gc : I9 102 = I 102 := fr 102 (by decide) (by decide) (by decide) (by decide) (by decide)
  refine a_mem (show I9 = m_row I9 100 (I9 100) from (m_row_self).symm) ?_
  show AW _ _ _ _ _ _ _ _ [.int (nI 1)] _ _ _ _
  refine a_if_ne (tgt := 85) dM_text_80 (by decide) (fun _ => ?_) (fun c => False.elim (absurd c (by decide)))
  refine a_iload_n 2 dM_text_85 rfl rfl ?_
  refine a_iconst (v := -1) dM_text_86 (by decide) ?_
  refine a_icmp_ne (tgt := 99) dM_text_87 (by decide) (fun c => False.elim (c rfl)) (fun _ => ?_)
  refine a_aload_n 0 dM_text_90 rfl rfl ?_
  refine a_geta (r := 100) dM_text_91 fl12_23 rfl ly_95 (by omega) (rf_95_5 hR) ?_
  refine a_iload_n 1 dM_text_94 rfl rfl ?_
  refine a_ialdN (a := 1) dM_text_95 ly_100 (by omega) (by omega) (by decide) ?_
  rw [show (m_row I9 100 (I9 100)) 100 1 = (nI 0) from (by rw [m_row_eq, g100]; exact h3)]
  refine a_goto (tgt := 100) dM_text_96 (by decide) ?_
  refine a_istore_n (lv' := [(3, .int (nI 0)), (0, .ref 95), (1, .int (nI 1)), (2, .int (-1))]) dM_text_100 rfl (by decide) rfl ?_
  refine a_aload_n 1 dM_text_101 rfl rfl ?_
  refine a_geta (r := 100) dM_text_102 fl12_23 rfl ly_95 (by omega) (rf_95_5 hR) ?_
  refine a_iload_n 2 dM_text_105 rfl rfl ?_
  refine a_dup2 dM_text_106 rfl rfl ?_
  refine a_ialdN (a := 1) dM_text_107 ly_100 (by omega) (by omega) (by decide) ?_
  rw [show (m_row I9 100 (I9 100)) 100 1 = (nI 0) from (by rw [m_row_eq, g100]; exact h3)]
  refine a_iload_n 3 dM_text_108 rfl rfl ?_
  refine a_iconst (v := -1) dM_text_109 (by decide) ?_
  refine a_icmp_ne (tgt := 117) dM_text_110 (by decide) (fun c => False.elim (c rfl)) (fun _ => ?_)
  refine a_iconstN (a := 1) dM_text_113 (by decide) ?_
  refine a_goto (tgt := 118) dM_text_114 (by decide) ?_
  refine a_iaddN (a := 0) (b := 1) dM_text_118 ?_
  refine a_iastN (a := 1) dM_text_119 ly_100 (by omega) (by omega) (by decide) ?_
  rw [show m_up (m_row I9 100 (I9 100)) 100 1 (nI (0 + 1)) = (m_row I9 100 (va_up (I9 100) 1 (nI (0 + 1)))) from (by rw [m_up_r])]
  refine a_iload_n 2 dM_text_120 rfl rfl ?_
  refine a_if_ne (tgt := 138) dM_text_121 (by decide) (fun _ => ?_) (fun c => False.elim (absurd c (by decide)))
  refine a_iload_n 2 dM_text_138 rfl rfl ?_
  refine a_iconstN (a := 1) dM_text_139 (by decide) ?_
  refine a_icmp_neN (tgt := 157) dM_text_140 (by decide) (by omega) (by omega) (fun c => False.elim (by omega)) (fun _ => ?_)
  refine a_aload_n 1 dM_text_143 rfl rfl ?_
  refine a_aload_n 1 dM_text_144 rfl rfl ?_
  refine a_geta (r := 102) dM_text_145 fl12_29 rfl ly_95 (by omega) (rf_95_7 hR) ?_
  refine a_bipushN (a := 121) dM_text_148 (by decide) ?_
  refine a_iload_n 0 dM_text_150 rfl rfl ?_
  refine a_callV (Q' := m_res none (m_row (m_row I9 100 (va_up (I9 100) 1 (nI (0 + 1)))) 102 (stF ((m_row I9 100 (va_up (I9 100) 1 (nI (0 + 1)))) 104) ((m_row I9 100 (va_up (I9 100) 1 (nI (0 + 1)))) 102) (121 * 0) 121)) J9 R) (as := [.ref 102, .int (nI 121), .int (nI 0)]) (st := []) dM_text_151 ml12_248 rfl (Nat.le_of_ble_eq_true rfl) ly_95 rfl rfl (by decide) (by omega) (Nat.le_of_ble_eq_true rfl) rfl (Nat.le_refl _) (Nat.le_refl _) (c_store1 (S := S) (d := d + 8) (n := n) (I := (m_row I9 100 (va_up (I9 100) 1 (nI (0 + 1))))) (J := J9) (R := R) (k := 0) hn hR (by decide)) (m_go ?_)
  show AW _ _ _ _ _ _ _ _ [] _ _ _ _
  refine a_goto (tgt := 168) dM_text_154 (by decide) ?_
  refine a_iload_n 0 dM_text_168 rfl rfl ?_
  exact a_iret dM_text_169 rfl ⟨rfl, rfl, ((m_row_ne (by decide)).trans ((m_row_ne (by decide)).trans (fr 97 (by decide) (by decide) (by decide) (by decide) (by decide)))), ((m_row_ne (by decide)).trans ((m_row_ne (by decide)).trans (g98.trans (by rw [hf0]; exact vaUU)))), ((m_row_ne (by decide)).trans ((m_row_ne (by decide)).trans (g99.trans (by rw [if_pos hf0]; exact vaUU)))), (m_row_ne (by decide)).trans ((m_row_eq).trans (by rw [g100])), (m_row_eq).trans (by rw [m_row_ne (by decide), m_row_ne (by decide), g104 hf0, gc]), fun a ha => (m_row_ne (by omega)).trans ((m_row_ne (by omega)).trans ((fr a (by omega) (by omega) (by omega) (by omega) (by omega)).trans ((m_row_ne (by omega)).trans ((m_row_ne (by omega)).trans (m_row_ne (by omega))))))⟩
theorem q_M_text1n1 {S : Nat × (Nat → Int32)} {d n : Nat} {I : mI} {J : mJ} {R : mR} (hn : 122 ≤ n) (hR : m_fin R) {len : Nat} (hlen : I 97 0 = nI len) (hl6 : len ≤ 600) (hby : byT (I 96) len) (h3 : I 100 1 = nI 1) (hf0 : (rdA (I 96) len 1 (len + 1) 0 (0, 0, -1, -1, DiA (I 104) 1)).f = 0)  : AW S (d + 9) YM_text n n (txN I R (nI 1) (nI 0) (-1) (va_up (I 100) 1 (nI 2)) 102 (stF (rdA (I 96) len 1 (len + 1) 0 (0, 0, -1, -1, DiA (I 104) 1)).D (I 102) (121 * 1) 121)) 0 [(0, .ref 95), (1, .int (nI 1)), (2, .int (-1))] [] I J R n := by
  refine a_mem (show I = (m_row (m_row (m_row (m_row I 95 (I 95)) 97 (I 97)) 98 (I 98)) 99 (I 99)) by rw [m_row_self, m_row_self, m_row_self, m_row_self]) ?_
  refine a_aload_n 0 dM_text_0 rfl rfl ?_
  refine a_iconstN (a := 0) dM_text_1 (by decide) ?_
  refine a_puti dM_text_2 fl12_90 rfl ly_95 (by omega) ?_
  rw [show m_up (m_row (m_row (m_row (m_row I 95 (I 95)) 97 (I 97)) 98 (I 98)) 99 (I 99)) 95 0 (nI 0) = (m_row (m_row (m_row (m_row I 95 (va_up (I 95) 0 (nI 0))) 97 (I 97)) 98 (I 98)) 99 (I 99)) from (by rw [m_up_comm (by decide), m_up_comm (by decide), m_up_comm (by decide), m_up_r])]
  refine a_aload_n 0 dM_text_5 rfl rfl ?_
  refine a_aload_n 0 dM_text_6 rfl rfl ?_
  refine a_geta (r := 97) dM_text_7 fl12_13 rfl ly_95 (by omega) (rf_95_2 hR) ?_
  refine a_iconstN (a := 0) dM_text_10 (by decide) ?_
  refine a_ialdN (a := 0) dM_text_11 ly_97 (by omega) (by omega) (by decide) ?_
  rw [show (m_row (m_row (m_row (m_row I 95 (va_up (I 95) 0 (nI 0))) 97 (I 97)) 98 (I 98)) 99 (I 99)) 97 0 = (nI len) from hlen]
  refine a_puti dM_text_12 fl12_113 rfl ly_95 (by omega) ?_
  rw [show m_up (m_row (m_row (m_row (m_row I 95 (va_up (I 95) 0 (nI 0))) 97 (I 97)) 98 (I 98)) 99 (I 99)) 95 10 (nI len) = (m_row (m_row (m_row (m_row I 95 (va_up (va_up (I 95) 0 (nI 0)) 10 (nI len))) 97 (I 97)) 98 (I 98)) 99 (I 99)) from (by rw [m_up_comm (by decide), m_up_comm (by decide), m_up_comm (by decide), m_up_r])]
  refine a_aload_n 0 dM_text_15 rfl rfl ?_
  refine a_geta (r := 97) dM_text_16 fl12_13 rfl ly_95 (by omega) (rf_95_2 hR) ?_
  refine a_iconstN (a := 0) dM_text_19 (by decide) ?_
  refine a_iconstN (a := 0) dM_text_20 (by decide) ?_
  refine a_iastN (a := 0) dM_text_21 ly_97 (by omega) (by omega) (by decide) ?_
  rw [show m_up (m_row (m_row (m_row (m_row I 95 (va_up (va_up (I 95) 0 (nI 0)) 10 (nI len))) 97 (I 97)) 98 (I 98)) 99 (I 99)) 97 0 (nI 0) = (m_row (m_row (m_row (m_row I 95 (va_up (va_up (I 95) 0 (nI 0)) 10 (nI len))) 97 (va_up (I 97) 0 (nI 0))) 98 (I 98)) 99 (I 99)) from (by rw [m_up_comm (by decide), m_up_comm (by decide), m_up_r])]
  refine a_aload_n 0 dM_text_22 rfl rfl ?_
  refine a_geta (r := 98) dM_text_23 fl12_17 rfl ly_95 (by omega) (rf_95_3 hR) ?_
  refine a_iconstN (a := 0) dM_text_26 (by decide) ?_
  refine a_iconstN (a := 0) dM_text_27 (by decide) ?_
  refine a_iastN (a := 0) dM_text_28 ly_98 (by omega) (by omega) (by decide) ?_
  rw [show m_up (m_row (m_row (m_row (m_row I 95 (va_up (va_up (I 95) 0 (nI 0)) 10 (nI len))) 97 (va_up (I 97) 0 (nI 0))) 98 (I 98)) 99 (I 99)) 98 0 (nI 0) = (m_row (m_row (m_row (m_row I 95 (va_up (va_up (I 95) 0 (nI 0)) 10 (nI len))) 97 (va_up (I 97) 0 (nI 0))) 98 (va_up (I 98) 0 (nI 0))) 99 (I 99)) from (by rw [m_up_comm (by decide), m_up_r])]
  refine a_aload_n 0 dM_text_29 rfl rfl ?_
  refine a_geta (r := 99) dM_text_30 fl12_20 rfl ly_95 (by omega) (rf_95_4 hR) ?_
  refine a_iconstN (a := 0) dM_text_33 (by decide) ?_
  refine a_iconst (v := -1) dM_text_34 (by decide) ?_
  refine a_iastN (a := 0) dM_text_35 ly_99 (by omega) (by omega) (by decide) ?_
  rw [show m_up (m_row (m_row (m_row (m_row I 95 (va_up (va_up (I 95) 0 (nI 0)) 10 (nI len))) 97 (va_up (I 97) 0 (nI 0))) 98 (va_up (I 98) 0 (nI 0))) 99 (I 99)) 99 0 (-1) = (m_row (m_row (m_row (m_row I 95 (va_up (va_up (I 95) 0 (nI 0)) 10 (nI len))) 97 (va_up (I 97) 0 (nI 0))) 98 (va_up (I 98) 0 (nI 0))) 99 (va_up (I 99) 0 (-1))) from (by rw [m_up_r])]
  refine a_iload_n 1 dM_text_36 rfl rfl ?_
  refine a_iconstN (a := 0) dM_text_37 (by decide) ?_
  refine a_iconstN (a := 2) dM_text_38 (by decide) ?_
  refine a_callS (Q' := m_res (some (.int 1)) (m_row (m_row (m_row (m_row I 95 (va_up (va_up (I 95) 0 (nI 0)) 10 (nI len))) 97 (va_up (I 97) 0 (nI 0))) 98 (va_up (I 98) 0 (nI 0))) 99 (va_up (I 99) 0 (-1))) J R) (as := [.int (nI 1), .int (nI 0), .int (nI 2)]) (st := []) dM_text_39 ml12_102 rfl (Nat.le_of_ble_eq_true rfl) (Nat.le_of_ble_eq_true rfl) rfl (Nat.le_refl _) (Nat.le_refl _) (c_M_inE (f_in_n (by decide) (by decide) (by decide))) (m_go ?_)
  show AW _ _ _ _ _ _ _ _ [.int 1] _ _ _ _
  refine a_if_eq (tgt := 72) dM_text_42 (by decide) (fun c => False.elim (absurd c (by decide))) (fun _ => ?_)
  refine a_iload_n 2 dM_text_45 rfl rfl ?_
  refine a_iconst (v := -1) dM_text_46 (by decide) ?_
  refine a_icmp_ne (tgt := 63) dM_text_47 (by decide) (fun c => False.elim (c rfl)) (fun _ => ?_)
  refine a_aload_n 0 dM_text_50 rfl rfl ?_
  refine a_geta (r := 100) dM_text_51 fl12_23 rfl ly_95 (by omega) (rf_95_5 hR) ?_
  refine a_iload_n 1 dM_text_54 rfl rfl ?_
  refine a_ialdN (a := 1) dM_text_55 ly_100 (by omega) (by omega) (by decide) ?_
  rw [show (m_row (m_row (m_row (m_row I 95 (va_up (va_up (I 95) 0 (nI 0)) 10 (nI len))) 97 (va_up (I 97) 0 (nI 0))) 98 (va_up (I 98) 0 (nI 0))) 99 (va_up (I 99) 0 (-1))) 100 1 = I 100 1 from rfl]
  refine a_iconstN (a := 2) dM_text_56 (by decide) ?_
  refine a_icmp_ne (tgt := 75) dM_text_57 (by decide) (fun _ => ?_) (fun c => False.elim (absurd (h3.symm.trans c) (by decide)))
  refine a_aload_n 0 dM_text_75 rfl rfl ?_
  refine a_iload_n 1 dM_text_76 rfl rfl ?_
  refine a_mem (show (m_row (m_row (m_row (m_row I 95 (va_up (va_up (I 95) 0 (nI 0)) 10 (nI len))) 97 (va_up (I 97) 0 (nI 0))) 98 (va_up (I 98) 0 (nI 0))) 99 (va_up (I 99) 0 (-1))) = mRd (m_row (m_row (m_row I 97 (va_up (I 97) 0 (nI 0))) 98 (va_up (I 98) 0 (nI 0))) 99 (va_up (I 99) 0 (-1))) (va_up (va_up (I 95) 0 (nI 0)) 10 (nI len)) (I 104) (I 105) from mR_in) ?_
  refine a_callV (Q' := rtQ (m_row (m_row (m_row I 97 (va_up (I 97) 0 (nI 0))) 98 (va_up (I 98) 0 (nI 0))) 99 (va_up (I 99) 0 (-1))) R (rdA (I 96) len 1 (len + 1) 0 (0, 0, -1, -1, DiA (I 104) 1))) (as := [.int (nI 1)]) (st := []) dM_text_77 ml12_245 rfl (Nat.le_of_ble_eq_true rfl) ly_95 rfl rfl (by decide) (by omega) (Nat.le_of_ble_eq_true rfl) rfl (Nat.le_refl _) (Nat.le_refl _) (r_readText (I := (m_row (m_row (m_row I 97 (va_up (I 97) 0 (nI 0))) 98 (va_up (I 98) 0 (nI 0))) 99 (va_up (I 99) 0 (-1)))) (F := (va_up (va_up (I 95) 0 (nI 0)) 10 (nI len))) (D := I 104) (A := I 105) hn hR hl6 hby rfl (by decide)) ?_
  intro v9 I9 J9 R9 ⟨e3, e1, g98, g99, g104, fr⟩
  rw [e3, e1, if_pos hf0]
  have g100 : I9 100 = I 100 := fr 100 (by decide) (by decide) (by decide) (by decide) (by decide)
  have gc : I9 102 = I 102 := fr 102 (by decide) (by decide) (by decide) (by decide) (by decide)
  refine a_mem (show I9 = m_row I9 100 (I9 100) from (m_row_self).symm) ?_
  show AW _ _ _ _ _ _ _ _ [.int (nI 1)] _ _ _ _
  refine a_if_ne (tgt := 85) dM_text_80 (by decide) (fun _ => ?_) (fun c => False.elim (absurd c (by decide)))
  refine a_iload_n 2 dM_text_85 rfl rfl ?_
  refine a_iconst (v := -1) dM_text_86 (by decide) ?_
  refine a_icmp_ne (tgt := 99) dM_text_87 (by decide) (fun c => False.elim (c rfl)) (fun _ => ?_)
  refine a_aload_n 0 dM_text_90 rfl rfl ?_
  refine a_geta (r := 100) dM_text_91 fl12_23 rfl ly_95 (by omega) (rf_95_5 hR) ?_
  refine a_iload_n 1 dM_text_94 rfl rfl ?_
  refine a_ialdN (a := 1) dM_text_95 ly_100 (by omega) (by omega) (by decide) ?_
  rw [show (m_row I9 100 (I9 100)) 100 1 = (nI 1) from (by rw [m_row_eq, g100]; exact h3)]
  refine a_goto (tgt := 100) dM_text_96 (by decide) ?_
  refine a_istore_n (lv' := [(3, .int (nI 1)), (0, .ref 95), (1, .int (nI 1)), (2, .int (-1))]) dM_text_100 rfl (by decide) rfl ?_
  refine a_aload_n 1 dM_text_101 rfl rfl ?_
  refine a_geta (r := 100) dM_text_102 fl12_23 rfl ly_95 (by omega) (rf_95_5 hR) ?_
  refine a_iload_n 2 dM_text_105 rfl rfl ?_
  refine a_dup2 dM_text_106 rfl rfl ?_
  refine a_ialdN (a := 1) dM_text_107 ly_100 (by omega) (by omega) (by decide) ?_
  rw [show (m_row I9 100 (I9 100)) 100 1 = (nI 1) from (by rw [m_row_eq, g100]; exact h3)]
  refine a_iload_n 3 dM_text_108 rfl rfl ?_
  refine a_iconst (v := -1) dM_text_109 (by decide) ?_
  refine a_icmp_ne (tgt := 117) dM_text_110 (by decide) (fun c => False.elim (c rfl)) (fun _ => ?_)
  refine a_iconstN (a := 1) dM_text_113 (by decide) ?_
  refine a_goto (tgt := 118) dM_text_114 (by decide) ?_
  refine a_iaddN (a := 1) (b := 1) dM_text_118 ?_
  refine a_iastN (a := 1) dM_text_119 ly_100 (by omega) (by omega) (by decide) ?_
  rw [show m_up (m_row I9 100 (I9 100)) 100 1 (nI (1 + 1)) = (m_row I9 100 (va_up (I9 100) 1 (nI (1 + 1)))) from (by rw [m_up_r])]
  refine a_iload_n 2 dM_text_120 rfl rfl ?_
  refine a_if_ne (tgt := 138) dM_text_121 (by decide) (fun _ => ?_) (fun c => False.elim (absurd c (by decide)))
  refine a_iload_n 2 dM_text_138 rfl rfl ?_
  refine a_iconstN (a := 1) dM_text_139 (by decide) ?_
  refine a_icmp_neN (tgt := 157) dM_text_140 (by decide) (by omega) (by omega) (fun c => False.elim (by omega)) (fun _ => ?_)
  refine a_aload_n 1 dM_text_143 rfl rfl ?_
  refine a_aload_n 1 dM_text_144 rfl rfl ?_
  refine a_geta (r := 102) dM_text_145 fl12_29 rfl ly_95 (by omega) (rf_95_7 hR) ?_
  refine a_bipushN (a := 121) dM_text_148 (by decide) ?_
  refine a_iload_n 0 dM_text_150 rfl rfl ?_
  refine a_callV (Q' := m_res none (m_row (m_row I9 100 (va_up (I9 100) 1 (nI (1 + 1)))) 102 (stF ((m_row I9 100 (va_up (I9 100) 1 (nI (1 + 1)))) 104) ((m_row I9 100 (va_up (I9 100) 1 (nI (1 + 1)))) 102) (121 * 1) 121)) J9 R) (as := [.ref 102, .int (nI 121), .int (nI 1)]) (st := []) dM_text_151 ml12_248 rfl (Nat.le_of_ble_eq_true rfl) ly_95 rfl rfl (by decide) (by omega) (Nat.le_of_ble_eq_true rfl) rfl (Nat.le_refl _) (Nat.le_refl _) (c_store1 (S := S) (d := d + 8) (n := n) (I := (m_row I9 100 (va_up (I9 100) 1 (nI (1 + 1))))) (J := J9) (R := R) (k := 1) hn hR (by decide)) (m_go ?_)
  show AW _ _ _ _ _ _ _ _ [] _ _ _ _
  refine a_goto (tgt := 168) dM_text_154 (by decide) ?_
  refine a_iload_n 0 dM_text_168 rfl rfl ?_
  exact a_iret dM_text_169 rfl ⟨rfl, rfl, ((m_row_ne (by decide)).trans ((m_row_ne (by decide)).trans (fr 97 (by decide) (by decide) (by decide) (by decide) (by decide)))), ((m_row_ne (by decide)).trans ((m_row_ne (by decide)).trans (g98.trans (by rw [hf0]; exact vaUU)))), ((m_row_ne (by decide)).trans ((m_row_ne (by decide)).trans (g99.trans (by rw [if_pos hf0]; exact vaUU)))), (m_row_ne (by decide)).trans ((m_row_eq).trans (by rw [g100])), (m_row_eq).trans (by rw [m_row_ne (by decide), m_row_ne (by decide), g104 hf0, gc]), fun a ha => (m_row_ne (by omega)).trans ((m_row_ne (by omega)).trans ((fr a (by omega) (by omega) (by omega) (by omega) (by omega)).trans ((m_row_ne (by omega)).trans ((m_row_ne (by omega)).trans (m_row_ne (by omega))))))⟩
theorem q_M_text1oF {S : Nat × (Nat → Int32)} {d n : Nat} {I : mI} {J : mJ} {R : mR} (hn : 122 ≤ n) (hR : m_fin R) {len : Nat} (hlen : I 97 0 = nI len) (hl6 : len ≤ 600) (hby : byT (I 96) len) {y : Int32} (hy : ¬ y = -1) (h : f_in y 0 (I 100 1 - 1) = 1) (hf0 : ¬ (rdA (I 96) len 1 (len + 1) 0 (0, 0, -1, -1, DiA (I 104) 1)).f = 0)  : AW S (d + 9) YM_text n n (txN I R (-1) (nI (rdA (I 96) len 1 (len + 1) 0 (0, 0, -1, -1, DiA (I 104) 1)).f) (nI (rdA (I 96) len 1 (len + 1) 0 (0, 0, -1, -1, DiA (I 104) 1)).pl) (I 100) 101 (I 101)) 0 [(0, .ref 95), (1, .int (nI 1)), (2, .int y)] [] I J R n := by
  refine a_mem (show I = (m_row (m_row (m_row (m_row I 95 (I 95)) 97 (I 97)) 98 (I 98)) 99 (I 99)) by rw [m_row_self, m_row_self, m_row_self, m_row_self]) ?_
  refine a_aload_n 0 dM_text_0 rfl rfl ?_
  refine a_iconstN (a := 0) dM_text_1 (by decide) ?_
  refine a_puti dM_text_2 fl12_90 rfl ly_95 (by omega) ?_
  rw [show m_up (m_row (m_row (m_row (m_row I 95 (I 95)) 97 (I 97)) 98 (I 98)) 99 (I 99)) 95 0 (nI 0) = (m_row (m_row (m_row (m_row I 95 (va_up (I 95) 0 (nI 0))) 97 (I 97)) 98 (I 98)) 99 (I 99)) from (by rw [m_up_comm (by decide), m_up_comm (by decide), m_up_comm (by decide), m_up_r])]
  refine a_aload_n 0 dM_text_5 rfl rfl ?_
  refine a_aload_n 0 dM_text_6 rfl rfl ?_
  refine a_geta (r := 97) dM_text_7 fl12_13 rfl ly_95 (by omega) (rf_95_2 hR) ?_
  refine a_iconstN (a := 0) dM_text_10 (by decide) ?_
  refine a_ialdN (a := 0) dM_text_11 ly_97 (by omega) (by omega) (by decide) ?_
  rw [show (m_row (m_row (m_row (m_row I 95 (va_up (I 95) 0 (nI 0))) 97 (I 97)) 98 (I 98)) 99 (I 99)) 97 0 = (nI len) from hlen]
  refine a_puti dM_text_12 fl12_113 rfl ly_95 (by omega) ?_
  rw [show m_up (m_row (m_row (m_row (m_row I 95 (va_up (I 95) 0 (nI 0))) 97 (I 97)) 98 (I 98)) 99 (I 99)) 95 10 (nI len) = (m_row (m_row (m_row (m_row I 95 (va_up (va_up (I 95) 0 (nI 0)) 10 (nI len))) 97 (I 97)) 98 (I 98)) 99 (I 99)) from (by rw [m_up_comm (by decide), m_up_comm (by decide), m_up_comm (by decide), m_up_r])]
  refine a_aload_n 0 dM_text_15 rfl rfl ?_
  refine a_geta (r := 97) dM_text_16 fl12_13 rfl ly_95 (by omega) (rf_95_2 hR) ?_
  refine a_iconstN (a := 0) dM_text_19 (by decide) ?_
  refine a_iconstN (a := 0) dM_text_20 (by decide) ?_
  refine a_iastN (a := 0) dM_text_21 ly_97 (by omega) (by omega) (by decide) ?_
  rw [show m_up (m_row (m_row (m_row (m_row I 95 (va_up (va_up (I 95) 0 (nI 0)) 10 (nI len))) 97 (I 97)) 98 (I 98)) 99 (I 99)) 97 0 (nI 0) = (m_row (m_row (m_row (m_row I 95 (va_up (va_up (I 95) 0 (nI 0)) 10 (nI len))) 97 (va_up (I 97) 0 (nI 0))) 98 (I 98)) 99 (I 99)) from (by rw [m_up_comm (by decide), m_up_comm (by decide), m_up_r])]
  refine a_aload_n 0 dM_text_22 rfl rfl ?_
  refine a_geta (r := 98) dM_text_23 fl12_17 rfl ly_95 (by omega) (rf_95_3 hR) ?_
  refine a_iconstN (a := 0) dM_text_26 (by decide) ?_
  refine a_iconstN (a := 0) dM_text_27 (by decide) ?_
  refine a_iastN (a := 0) dM_text_28 ly_98 (by omega) (by omega) (by decide) ?_
  rw [show m_up (m_row (m_row (m_row (m_row I 95 (va_up (va_up (I 95) 0 (nI 0)) 10 (nI len))) 97 (va_up (I 97) 0 (nI 0))) 98 (I 98)) 99 (I 99)) 98 0 (nI 0) = (m_row (m_row (m_row (m_row I 95 (va_up (va_up (I 95) 0 (nI 0)) 10 (nI len))) 97 (va_up (I 97) 0 (nI 0))) 98 (va_up (I 98) 0 (nI 0))) 99 (I 99)) from (by rw [m_up_comm (by decide), m_up_r])]
  refine a_aload_n 0 dM_text_29 rfl rfl ?_
  refine a_geta (r := 99) dM_text_30 fl12_20 rfl ly_95 (by omega) (rf_95_4 hR) ?_
  refine a_iconstN (a := 0) dM_text_33 (by decide) ?_
  refine a_iconst (v := -1) dM_text_34 (by decide) ?_
  refine a_iastN (a := 0) dM_text_35 ly_99 (by omega) (by omega) (by decide) ?_
  rw [show m_up (m_row (m_row (m_row (m_row I 95 (va_up (va_up (I 95) 0 (nI 0)) 10 (nI len))) 97 (va_up (I 97) 0 (nI 0))) 98 (va_up (I 98) 0 (nI 0))) 99 (I 99)) 99 0 (-1) = (m_row (m_row (m_row (m_row I 95 (va_up (va_up (I 95) 0 (nI 0)) 10 (nI len))) 97 (va_up (I 97) 0 (nI 0))) 98 (va_up (I 98) 0 (nI 0))) 99 (va_up (I 99) 0 (-1))) from (by rw [m_up_r])]
  refine a_iload_n 1 dM_text_36 rfl rfl ?_
  refine a_iconstN (a := 0) dM_text_37 (by decide) ?_
  refine a_iconstN (a := 2) dM_text_38 (by decide) ?_
  refine a_callS (Q' := m_res (some (.int 1)) (m_row (m_row (m_row (m_row I 95 (va_up (va_up (I 95) 0 (nI 0)) 10 (nI len))) 97 (va_up (I 97) 0 (nI 0))) 98 (va_up (I 98) 0 (nI 0))) 99 (va_up (I 99) 0 (-1))) J R) (as := [.int (nI 1), .int (nI 0), .int (nI 2)]) (st := []) dM_text_39 ml12_102 rfl (Nat.le_of_ble_eq_true rfl) (Nat.le_of_ble_eq_true rfl) rfl (Nat.le_refl _) (Nat.le_refl _) (c_M_inE (f_in_n (by decide) (by decide) (by decide))) (m_go ?_)
  show AW _ _ _ _ _ _ _ _ [.int 1] _ _ _ _
  refine a_if_eq (tgt := 72) dM_text_42 (by decide) (fun c => False.elim (absurd c (by decide))) (fun _ => ?_)
  refine a_iload_n 2 dM_text_45 rfl rfl ?_
  refine a_iconst (v := -1) dM_text_46 (by decide) ?_
  refine a_icmp_ne (tgt := 63) dM_text_47 (by decide) (fun _ => ?_) (fun c => False.elim (hy c))
  refine a_aload_n 0 dM_text_63 rfl rfl ?_
  refine a_iload_n 1 dM_text_64 rfl rfl ?_
  refine a_iload_n 2 dM_text_65 rfl rfl ?_
  refine a_callV (Q' := m_res (some (.int 1)) (m_row (m_row (m_row (m_row I 95 (va_up (va_up (I 95) 0 (nI 0)) 10 (nI len))) 97 (va_up (I 97) 0 (nI 0))) 98 (va_up (I 98) 0 (nI 0))) 99 (va_up (I 99) 0 (-1))) J R) (as := [.int (nI 1), .int y]) (st := []) dM_text_66 ml12_242 rfl (Nat.le_of_ble_eq_true rfl) ly_95 rfl rfl (by decide) (by omega) (Nat.le_of_ble_eq_true rfl) rfl (Nat.le_refl _) (Nat.le_refl _) (by have q := c_M_is (S := S) (d := d + 7) (n := n) (I := (m_row (m_row (m_row (m_row I 95 (va_up (va_up (I 95) 0 (nI 0)) 10 (nI len))) 97 (va_up (I 97) 0 (nI 0))) 98 (va_up (I 98) 0 (nI 0))) 99 (va_up (I 99) 0 (-1)))) (J := J) (R := R) (s := 1) (k := y) hn hR (by decide); rw [show (m_row (m_row (m_row (m_row I 95 (va_up (va_up (I 95) 0 (nI 0)) 10 (nI len))) 97 (va_up (I 97) 0 (nI 0))) 98 (va_up (I 98) 0 (nI 0))) 99 (va_up (I 99) 0 (-1))) 100 1 = I 100 1 from rfl, h] at q; exact q) (m_go ?_)
  show AW _ _ _ _ _ _ _ _ [.int 1] _ _ _ _
  refine a_if_ne (tgt := 75) dM_text_69 (by decide) (fun _ => ?_) (fun c => False.elim (absurd c (by decide)))
  refine a_aload_n 0 dM_text_75 rfl rfl ?_
  refine a_iload_n 1 dM_text_76 rfl rfl ?_
  refine a_mem (show (m_row (m_row (m_row (m_row I 95 (va_up (va_up (I 95) 0 (nI 0)) 10 (nI len))) 97 (va_up (I 97) 0 (nI 0))) 98 (va_up (I 98) 0 (nI 0))) 99 (va_up (I 99) 0 (-1))) = mRd (m_row (m_row (m_row I 97 (va_up (I 97) 0 (nI 0))) 98 (va_up (I 98) 0 (nI 0))) 99 (va_up (I 99) 0 (-1))) (va_up (va_up (I 95) 0 (nI 0)) 10 (nI len)) (I 104) (I 105) from mR_in) ?_
  refine a_callV (Q' := rtQ (m_row (m_row (m_row I 97 (va_up (I 97) 0 (nI 0))) 98 (va_up (I 98) 0 (nI 0))) 99 (va_up (I 99) 0 (-1))) R (rdA (I 96) len 1 (len + 1) 0 (0, 0, -1, -1, DiA (I 104) 1))) (as := [.int (nI 1)]) (st := []) dM_text_77 ml12_245 rfl (Nat.le_of_ble_eq_true rfl) ly_95 rfl rfl (by decide) (by omega) (Nat.le_of_ble_eq_true rfl) rfl (Nat.le_refl _) (Nat.le_refl _) (r_readText (I := (m_row (m_row (m_row I 97 (va_up (I 97) 0 (nI 0))) 98 (va_up (I 98) 0 (nI 0))) 99 (va_up (I 99) 0 (-1)))) (F := (va_up (va_up (I 95) 0 (nI 0)) 10 (nI len))) (D := I 104) (A := I 105) hn hR hl6 hby rfl (by decide)) ?_
  intro v9 I9 J9 R9 ⟨e3, e1, g98, g99, g104, fr⟩
  rw [e3, e1, if_neg hf0]
  show AW _ _ _ _ _ _ _ _ [.int (nI 0)] _ _ _ _
  refine a_if_ne (tgt := 85) dM_text_80 (by decide) (fun c => False.elim (c rfl)) (fun _ => ?_)
  refine a_iconst (v := -1) dM_text_83 (by decide) ?_
  exact a_iret dM_text_84 rfl ⟨rfl, rfl, fr 97 (by decide) (by decide) (by decide) (by decide) (by decide), g98.trans (by show va_up (va_up (I 98) 0 (nI 0)) 0 _ = _; exact vaUU), g99.trans (by rw [if_neg hf0]; exact vaUU), fr 100 (by decide) (by decide) (by decide) (by decide) (by decide), fr 101 (by decide) (by decide) (by decide) (by decide) (by decide), fun a ha => (fr a (by omega) (by omega) (by omega) (by omega) (by omega)).trans ((m_row_ne (by omega)).trans ((m_row_ne (by omega)).trans (m_row_ne (by omega))))⟩
theorem q_M_text1o0 {S : Nat × (Nat → Int32)} {d n : Nat} {I : mI} {J : mJ} {R : mR} (hn : 122 ≤ n) (hR : m_fin R) {len : Nat} (hlen : I 97 0 = nI len) (hl6 : len ≤ 600) (hby : byT (I 96) len) (h : f_in (nI 0) 0 (I 100 1 - 1) = 1) (hf0 : (rdA (I 96) len 1 (len + 1) 0 (0, 0, -1, -1, DiA (I 104) 1)).f = 0)  : AW S (d + 9) YM_text n n (txN I R (nI 0) (nI 0) (-1) (I 100) 102 (stF (rdA (I 96) len 1 (len + 1) 0 (0, 0, -1, -1, DiA (I 104) 1)).D (I 102) (121 * 0) 121)) 0 [(0, .ref 95), (1, .int (nI 1)), (2, .int (nI 0))] [] I J R n := by
  refine a_mem (show I = (m_row (m_row (m_row (m_row I 95 (I 95)) 97 (I 97)) 98 (I 98)) 99 (I 99)) by rw [m_row_self, m_row_self, m_row_self, m_row_self]) ?_
  refine a_aload_n 0 dM_text_0 rfl rfl ?_
  refine a_iconstN (a := 0) dM_text_1 (by decide) ?_
  refine a_puti dM_text_2 fl12_90 rfl ly_95 (by omega) ?_
  rw [show m_up (m_row (m_row (m_row (m_row I 95 (I 95)) 97 (I 97)) 98 (I 98)) 99 (I 99)) 95 0 (nI 0) = (m_row (m_row (m_row (m_row I 95 (va_up (I 95) 0 (nI 0))) 97 (I 97)) 98 (I 98)) 99 (I 99)) from (by rw [m_up_comm (by decide), m_up_comm (by decide), m_up_comm (by decide), m_up_r])]
  refine a_aload_n 0 dM_text_5 rfl rfl ?_
  refine a_aload_n 0 dM_text_6 rfl rfl ?_
  refine a_geta (r := 97) dM_text_7 fl12_13 rfl ly_95 (by omega) (rf_95_2 hR) ?_
  refine a_iconstN (a := 0) dM_text_10 (by decide) ?_
  refine a_ialdN (a := 0) dM_text_11 ly_97 (by omega) (by omega) (by decide) ?_
  rw [show (m_row (m_row (m_row (m_row I 95 (va_up (I 95) 0 (nI 0))) 97 (I 97)) 98 (I 98)) 99 (I 99)) 97 0 = (nI len) from hlen]
  refine a_puti dM_text_12 fl12_113 rfl ly_95 (by omega) ?_
  rw [show m_up (m_row (m_row (m_row (m_row I 95 (va_up (I 95) 0 (nI 0))) 97 (I 97)) 98 (I 98)) 99 (I 99)) 95 10 (nI len) = (m_row (m_row (m_row (m_row I 95 (va_up (va_up (I 95) 0 (nI 0)) 10 (nI len))) 97 (I 97)) 98 (I 98)) 99 (I 99)) from (by rw [m_up_comm (by decide), m_up_comm (by decide), m_up_comm (by decide), m_up_r])]
  refine a_aload_n 0 dM_text_15 rfl rfl ?_
  refine a_geta (r := 97) dM_text_16 fl12_13 rfl ly_95 (by omega) (rf_95_2 hR) ?_
  refine a_iconstN (a := 0) dM_text_19 (by decide) ?_
  refine a_iconstN (a := 0) dM_text_20 (by decide) ?_
  refine a_iastN (a := 0) dM_text_21 ly_97 (by omega) (by omega) (by decide) ?_
  rw [show m_up (m_row (m_row (m_row (m_row I 95 (va_up (va_up (I 95) 0 (nI 0)) 10 (nI len))) 97 (I 97)) 98 (I 98)) 99 (I 99)) 97 0 (nI 0) = (m_row (m_row (m_row (m_row I 95 (va_up (va_up (I 95) 0 (nI 0)) 10 (nI len))) 97 (va_up (I 97) 0 (nI 0))) 98 (I 98)) 99 (I 99)) from (by rw [m_up_comm (by decide), m_up_comm (by decide), m_up_r])]
  refine a_aload_n 0 dM_text_22 rfl rfl ?_
  refine a_geta (r := 98) dM_text_23 fl12_17 rfl ly_95 (by omega) (rf_95_3 hR) ?_
  refine a_iconstN (a := 0) dM_text_26 (by decide) ?_
  refine a_iconstN (a := 0) dM_text_27 (by decide) ?_
  refine a_iastN (a := 0) dM_text_28 ly_98 (by omega) (by omega) (by decide) ?_
  rw [show m_up (m_row (m_row (m_row (m_row I 95 (va_up (va_up (I 95) 0 (nI 0)) 10 (nI len))) 97 (va_up (I 97) 0 (nI 0))) 98 (I 98)) 99 (I 99)) 98 0 (nI 0) = (m_row (m_row (m_row (m_row I 95 (va_up (va_up (I 95) 0 (nI 0)) 10 (nI len))) 97 (va_up (I 97) 0 (nI 0))) 98 (va_up (I 98) 0 (nI 0))) 99 (I 99)) from (by rw [m_up_comm (by decide), m_up_r])]
  refine a_aload_n 0 dM_text_29 rfl rfl ?_
  refine a_geta (r := 99) dM_text_30 fl12_20 rfl ly_95 (by omega) (rf_95_4 hR) ?_
  refine a_iconstN (a := 0) dM_text_33 (by decide) ?_
  refine a_iconst (v := -1) dM_text_34 (by decide) ?_
  refine a_iastN (a := 0) dM_text_35 ly_99 (by omega) (by omega) (by decide) ?_
  rw [show m_up (m_row (m_row (m_row (m_row I 95 (va_up (va_up (I 95) 0 (nI 0)) 10 (nI len))) 97 (va_up (I 97) 0 (nI 0))) 98 (va_up (I 98) 0 (nI 0))) 99 (I 99)) 99 0 (-1) = (m_row (m_row (m_row (m_row I 95 (va_up (va_up (I 95) 0 (nI 0)) 10 (nI len))) 97 (va_up (I 97) 0 (nI 0))) 98 (va_up (I 98) 0 (nI 0))) 99 (va_up (I 99) 0 (-1))) from (by rw [m_up_r])]
  refine a_iload_n 1 dM_text_36 rfl rfl ?_
  refine a_iconstN (a := 0) dM_text_37 (by decide) ?_
  refine a_iconstN (a := 2) dM_text_38 (by decide) ?_
  refine a_callS (Q' := m_res (some (.int 1)) (m_row (m_row (m_row (m_row I 95 (va_up (va_up (I 95) 0 (nI 0)) 10 (nI len))) 97 (va_up (I 97) 0 (nI 0))) 98 (va_up (I 98) 0 (nI 0))) 99 (va_up (I 99) 0 (-1))) J R) (as := [.int (nI 1), .int (nI 0), .int (nI 2)]) (st := []) dM_text_39 ml12_102 rfl (Nat.le_of_ble_eq_true rfl) (Nat.le_of_ble_eq_true rfl) rfl (Nat.le_refl _) (Nat.le_refl _) (c_M_inE (f_in_n (by decide) (by decide) (by decide))) (m_go ?_)
  show AW _ _ _ _ _ _ _ _ [.int 1] _ _ _ _
  refine a_if_eq (tgt := 72) dM_text_42 (by decide) (fun c => False.elim (absurd c (by decide))) (fun _ => ?_)
  refine a_iload_n 2 dM_text_45 rfl rfl ?_
  refine a_iconst (v := -1) dM_text_46 (by decide) ?_
  refine a_icmp_ne (tgt := 63) dM_text_47 (by decide) (fun _ => ?_) (fun c => False.elim (absurd c (by decide)))
  refine a_aload_n 0 dM_text_63 rfl rfl ?_
  refine a_iload_n 1 dM_text_64 rfl rfl ?_
  refine a_iload_n 2 dM_text_65 rfl rfl ?_
  refine a_callV (Q' := m_res (some (.int 1)) (m_row (m_row (m_row (m_row I 95 (va_up (va_up (I 95) 0 (nI 0)) 10 (nI len))) 97 (va_up (I 97) 0 (nI 0))) 98 (va_up (I 98) 0 (nI 0))) 99 (va_up (I 99) 0 (-1))) J R) (as := [.int (nI 1), .int (nI 0)]) (st := []) dM_text_66 ml12_242 rfl (Nat.le_of_ble_eq_true rfl) ly_95 rfl rfl (by decide) (by omega) (Nat.le_of_ble_eq_true rfl) rfl (Nat.le_refl _) (Nat.le_refl _) (by have q := c_M_is (S := S) (d := d + 7) (n := n) (I := (m_row (m_row (m_row (m_row I 95 (va_up (va_up (I 95) 0 (nI 0)) 10 (nI len))) 97 (va_up (I 97) 0 (nI 0))) 98 (va_up (I 98) 0 (nI 0))) 99 (va_up (I 99) 0 (-1)))) (J := J) (R := R) (s := 1) (k := (nI 0)) hn hR (by decide); rw [show (m_row (m_row (m_row (m_row I 95 (va_up (va_up (I 95) 0 (nI 0)) 10 (nI len))) 97 (va_up (I 97) 0 (nI 0))) 98 (va_up (I 98) 0 (nI 0))) 99 (va_up (I 99) 0 (-1))) 100 1 = I 100 1 from rfl, h] at q; exact q) (m_go ?_)
  show AW _ _ _ _ _ _ _ _ [.int 1] _ _ _ _
  refine a_if_ne (tgt := 75) dM_text_69 (by decide) (fun _ => ?_) (fun c => False.elim (absurd c (by decide)))
  refine a_aload_n 0 dM_text_75 rfl rfl ?_
  refine a_iload_n 1 dM_text_76 rfl rfl ?_
  refine a_mem (show (m_row (m_row (m_row (m_row I 95 (va_up (va_up (I 95) 0 (nI 0)) 10 (nI len))) 97 (va_up (I 97) 0 (nI 0))) 98 (va_up (I 98) 0 (nI 0))) 99 (va_up (I 99) 0 (-1))) = mRd (m_row (m_row (m_row I 97 (va_up (I 97) 0 (nI 0))) 98 (va_up (I 98) 0 (nI 0))) 99 (va_up (I 99) 0 (-1))) (va_up (va_up (I 95) 0 (nI 0)) 10 (nI len)) (I 104) (I 105) from mR_in) ?_
  refine a_callV (Q' := rtQ (m_row (m_row (m_row I 97 (va_up (I 97) 0 (nI 0))) 98 (va_up (I 98) 0 (nI 0))) 99 (va_up (I 99) 0 (-1))) R (rdA (I 96) len 1 (len + 1) 0 (0, 0, -1, -1, DiA (I 104) 1))) (as := [.int (nI 1)]) (st := []) dM_text_77 ml12_245 rfl (Nat.le_of_ble_eq_true rfl) ly_95 rfl rfl (by decide) (by omega) (Nat.le_of_ble_eq_true rfl) rfl (Nat.le_refl _) (Nat.le_refl _) (r_readText (I := (m_row (m_row (m_row I 97 (va_up (I 97) 0 (nI 0))) 98 (va_up (I 98) 0 (nI 0))) 99 (va_up (I 99) 0 (-1)))) (F := (va_up (va_up (I 95) 0 (nI 0)) 10 (nI len))) (D := I 104) (A := I 105) hn hR hl6 hby rfl (by decide)) ?_
  intro v9 I9 J9 R9 ⟨e3, e1, g98, g99, g104, fr⟩
  rw [e3, e1, if_pos hf0]
  have g100 : I9 100 = I 100 := fr 100 (by decide) (by decide) (by decide) (by decide) (by decide)
  have gc : I9 102 = I 102 := fr 102 (by decide) (by decide) (by decide) (by decide) (by decide)
  refine a_mem (show I9 = m_row I9 100 (I9 100) from (m_row_self).symm) ?_
  show AW _ _ _ _ _ _ _ _ [.int (nI 1)] _ _ _ _
  refine a_if_ne (tgt := 85) dM_text_80 (by decide) (fun _ => ?_) (fun c => False.elim (absurd c (by decide)))
  refine a_iload_n 2 dM_text_85 rfl rfl ?_
  refine a_iconst (v := -1) dM_text_86 (by decide) ?_
  refine a_icmp_ne (tgt := 99) dM_text_87 (by decide) (fun _ => ?_) (fun c => False.elim (absurd c (by decide)))
  refine a_iload_n 2 dM_text_99 rfl rfl ?_
  refine a_istore_n (lv' := [(3, .int (nI 0)), (0, .ref 95), (1, .int (nI 1)), (2, .int (nI 0))]) dM_text_100 rfl (by decide) rfl ?_
  refine a_aload_n 1 dM_text_101 rfl rfl ?_
  refine a_geta (r := 100) dM_text_102 fl12_23 rfl ly_95 (by omega) (rf_95_5 hR) ?_
  refine a_iload_n 2 dM_text_105 rfl rfl ?_
  refine a_dup2 dM_text_106 rfl rfl ?_
  refine a_ialdN (a := 1) dM_text_107 ly_100 (by omega) (by omega) (by decide) ?_
  rw [show (m_row I9 100 (I9 100)) 100 1 = I9 100 1 from rfl]
  refine a_iload_n 3 dM_text_108 rfl rfl ?_
  refine a_iconst (v := -1) dM_text_109 (by decide) ?_
  refine a_icmp_ne (tgt := 117) dM_text_110 (by decide) (fun _ => ?_) (fun c => False.elim (absurd c (by decide)))
  refine a_iconstN (a := 0) dM_text_117 (by decide) ?_
  refine a_iadd dM_text_118 ?_
  refine a_iastN (a := 1) dM_text_119 ly_100 (by omega) (by omega) (by decide) ?_
  rw [show m_up (m_row I9 100 (I9 100)) 100 1 ((I9 100 1) + (nI 0)) = (m_row I9 100 (va_up (I9 100) 1 ((I9 100 1) + (nI 0)))) from (by rw [m_up_r])]
  refine a_iload_n 2 dM_text_120 rfl rfl ?_
  refine a_if_ne (tgt := 138) dM_text_121 (by decide) (fun _ => ?_) (fun c => False.elim (absurd c (by decide)))
  refine a_iload_n 2 dM_text_138 rfl rfl ?_
  refine a_iconstN (a := 1) dM_text_139 (by decide) ?_
  refine a_icmp_neN (tgt := 157) dM_text_140 (by decide) (by omega) (by omega) (fun c => False.elim (by omega)) (fun _ => ?_)
  refine a_aload_n 1 dM_text_143 rfl rfl ?_
  refine a_aload_n 1 dM_text_144 rfl rfl ?_
  refine a_geta (r := 102) dM_text_145 fl12_29 rfl ly_95 (by omega) (rf_95_7 hR) ?_
  refine a_bipushN (a := 121) dM_text_148 (by decide) ?_
  refine a_iload_n 0 dM_text_150 rfl rfl ?_
  refine a_callV (Q' := m_res none (m_row (m_row I9 100 (va_up (I9 100) 1 ((I9 100 1) + (nI 0)))) 102 (stF ((m_row I9 100 (va_up (I9 100) 1 ((I9 100 1) + (nI 0)))) 104) ((m_row I9 100 (va_up (I9 100) 1 ((I9 100 1) + (nI 0)))) 102) (121 * 0) 121)) J9 R) (as := [.ref 102, .int (nI 121), .int (nI 0)]) (st := []) dM_text_151 ml12_248 rfl (Nat.le_of_ble_eq_true rfl) ly_95 rfl rfl (by decide) (by omega) (Nat.le_of_ble_eq_true rfl) rfl (Nat.le_refl _) (Nat.le_refl _) (c_store1 (S := S) (d := d + 8) (n := n) (I := (m_row I9 100 (va_up (I9 100) 1 ((I9 100 1) + (nI 0))))) (J := J9) (R := R) (k := 0) hn hR (by decide)) (m_go ?_)
  show AW _ _ _ _ _ _ _ _ [] _ _ _ _
  refine a_goto (tgt := 168) dM_text_154 (by decide) ?_
  refine a_iload_n 0 dM_text_168 rfl rfl ?_
  exact a_iret dM_text_169 rfl ⟨rfl, rfl, ((m_row_ne (by decide)).trans ((m_row_ne (by decide)).trans (fr 97 (by decide) (by decide) (by decide) (by decide) (by decide)))), ((m_row_ne (by decide)).trans ((m_row_ne (by decide)).trans (g98.trans (by rw [hf0]; exact vaUU)))), ((m_row_ne (by decide)).trans ((m_row_ne (by decide)).trans (g99.trans (by rw [if_pos hf0]; exact vaUU)))), (m_row_ne (by decide)).trans ((m_row_eq).trans (by rw [g100]; exact (va_ui2 (Int32.add_zero _).symm))), (m_row_eq).trans (by rw [m_row_ne (by decide), m_row_ne (by decide), g104 hf0, gc]), fun a ha => (m_row_ne (by omega)).trans ((m_row_ne (by omega)).trans ((fr a (by omega) (by omega) (by omega) (by omega) (by omega)).trans ((m_row_ne (by omega)).trans ((m_row_ne (by omega)).trans (m_row_ne (by omega))))))⟩
theorem q_M_text1o1 {S : Nat × (Nat → Int32)} {d n : Nat} {I : mI} {J : mJ} {R : mR} (hn : 122 ≤ n) (hR : m_fin R) {len : Nat} (hlen : I 97 0 = nI len) (hl6 : len ≤ 600) (hby : byT (I 96) len) (h : f_in (nI 1) 0 (I 100 1 - 1) = 1) (hf0 : (rdA (I 96) len 1 (len + 1) 0 (0, 0, -1, -1, DiA (I 104) 1)).f = 0)  : AW S (d + 9) YM_text n n (txN I R (nI 1) (nI 0) (-1) (I 100) 102 (stF (rdA (I 96) len 1 (len + 1) 0 (0, 0, -1, -1, DiA (I 104) 1)).D (I 102) (121 * 1) 121)) 0 [(0, .ref 95), (1, .int (nI 1)), (2, .int (nI 1))] [] I J R n := by
  refine a_mem (show I = (m_row (m_row (m_row (m_row I 95 (I 95)) 97 (I 97)) 98 (I 98)) 99 (I 99)) by rw [m_row_self, m_row_self, m_row_self, m_row_self]) ?_
  refine a_aload_n 0 dM_text_0 rfl rfl ?_
  refine a_iconstN (a := 0) dM_text_1 (by decide) ?_
  refine a_puti dM_text_2 fl12_90 rfl ly_95 (by omega) ?_
  rw [show m_up (m_row (m_row (m_row (m_row I 95 (I 95)) 97 (I 97)) 98 (I 98)) 99 (I 99)) 95 0 (nI 0) = (m_row (m_row (m_row (m_row I 95 (va_up (I 95) 0 (nI 0))) 97 (I 97)) 98 (I 98)) 99 (I 99)) from (by rw [m_up_comm (by decide), m_up_comm (by decide), m_up_comm (by decide), m_up_r])]
  refine a_aload_n 0 dM_text_5 rfl rfl ?_
  refine a_aload_n 0 dM_text_6 rfl rfl ?_
  refine a_geta (r := 97) dM_text_7 fl12_13 rfl ly_95 (by omega) (rf_95_2 hR) ?_
  refine a_iconstN (a := 0) dM_text_10 (by decide) ?_
  refine a_ialdN (a := 0) dM_text_11 ly_97 (by omega) (by omega) (by decide) ?_
  rw [show (m_row (m_row (m_row (m_row I 95 (va_up (I 95) 0 (nI 0))) 97 (I 97)) 98 (I 98)) 99 (I 99)) 97 0 = (nI len) from hlen]
  refine a_puti dM_text_12 fl12_113 rfl ly_95 (by omega) ?_
  rw [show m_up (m_row (m_row (m_row (m_row I 95 (va_up (I 95) 0 (nI 0))) 97 (I 97)) 98 (I 98)) 99 (I 99)) 95 10 (nI len) = (m_row (m_row (m_row (m_row I 95 (va_up (va_up (I 95) 0 (nI 0)) 10 (nI len))) 97 (I 97)) 98 (I 98)) 99 (I 99)) from (by rw [m_up_comm (by decide), m_up_comm (by decide), m_up_comm (by decide), m_up_r])]
  refine a_aload_n 0 dM_text_15 rfl rfl ?_
  refine a_geta (r := 97) dM_text_16 fl12_13 rfl ly_95 (by omega) (rf_95_2 hR) ?_
  refine a_iconstN (a := 0) dM_text_19 (by decide) ?_
  refine a_iconstN (a := 0) dM_text_20 (by decide) ?_
  refine a_iastN (a := 0) dM_text_21 ly_97 (by omega) (by omega) (by decide) ?_
  rw [show m_up (m_row (m_row (m_row (m_row I 95 (va_up (va_up (I 95) 0 (nI 0)) 10 (nI len))) 97 (I 97)) 98 (I 98)) 99 (I 99)) 97 0 (nI 0) = (m_row (m_row (m_row (m_row I 95 (va_up (va_up (I 95) 0 (nI 0)) 10 (nI len))) 97 (va_up (I 97) 0 (nI 0))) 98 (I 98)) 99 (I 99)) from (by rw [m_up_comm (by decide), m_up_comm (by decide), m_up_r])]
  refine a_aload_n 0 dM_text_22 rfl rfl ?_
  refine a_geta (r := 98) dM_text_23 fl12_17 rfl ly_95 (by omega) (rf_95_3 hR) ?_
  refine a_iconstN (a := 0) dM_text_26 (by decide) ?_
  refine a_iconstN (a := 0) dM_text_27 (by decide) ?_
  refine a_iastN (a := 0) dM_text_28 ly_98 (by omega) (by omega) (by decide) ?_
  rw [show m_up (m_row (m_row (m_row (m_row I 95 (va_up (va_up (I 95) 0 (nI 0)) 10 (nI len))) 97 (va_up (I 97) 0 (nI 0))) 98 (I 98)) 99 (I 99)) 98 0 (nI 0) = (m_row (m_row (m_row (m_row I 95 (va_up (va_up (I 95) 0 (nI 0)) 10 (nI len))) 97 (va_up (I 97) 0 (nI 0))) 98 (va_up (I 98) 0 (nI 0))) 99 (I 99)) from (by rw [m_up_comm (by decide), m_up_r])]
  refine a_aload_n 0 dM_text_29 rfl rfl ?_
  refine a_geta (r := 99) dM_text_30 fl12_20 rfl ly_95 (by omega) (rf_95_4 hR) ?_
  refine a_iconstN (a := 0) dM_text_33 (by decide) ?_
  refine a_iconst (v := -1) dM_text_34 (by decide) ?_
  refine a_iastN (a := 0) dM_text_35 ly_99 (by omega) (by omega) (by decide) ?_
  rw [show m_up (m_row (m_row (m_row (m_row I 95 (va_up (va_up (I 95) 0 (nI 0)) 10 (nI len))) 97 (va_up (I 97) 0 (nI 0))) 98 (va_up (I 98) 0 (nI 0))) 99 (I 99)) 99 0 (-1) = (m_row (m_row (m_row (m_row I 95 (va_up (va_up (I 95) 0 (nI 0)) 10 (nI len))) 97 (va_up (I 97) 0 (nI 0))) 98 (va_up (I 98) 0 (nI 0))) 99 (va_up (I 99) 0 (-1))) from (by rw [m_up_r])]
  refine a_iload_n 1 dM_text_36 rfl rfl ?_
  refine a_iconstN (a := 0) dM_text_37 (by decide) ?_
  refine a_iconstN (a := 2) dM_text_38 (by decide) ?_
  refine a_callS (Q' := m_res (some (.int 1)) (m_row (m_row (m_row (m_row I 95 (va_up (va_up (I 95) 0 (nI 0)) 10 (nI len))) 97 (va_up (I 97) 0 (nI 0))) 98 (va_up (I 98) 0 (nI 0))) 99 (va_up (I 99) 0 (-1))) J R) (as := [.int (nI 1), .int (nI 0), .int (nI 2)]) (st := []) dM_text_39 ml12_102 rfl (Nat.le_of_ble_eq_true rfl) (Nat.le_of_ble_eq_true rfl) rfl (Nat.le_refl _) (Nat.le_refl _) (c_M_inE (f_in_n (by decide) (by decide) (by decide))) (m_go ?_)
  show AW _ _ _ _ _ _ _ _ [.int 1] _ _ _ _
  refine a_if_eq (tgt := 72) dM_text_42 (by decide) (fun c => False.elim (absurd c (by decide))) (fun _ => ?_)
  refine a_iload_n 2 dM_text_45 rfl rfl ?_
  refine a_iconst (v := -1) dM_text_46 (by decide) ?_
  refine a_icmp_ne (tgt := 63) dM_text_47 (by decide) (fun _ => ?_) (fun c => False.elim (absurd c (by decide)))
  refine a_aload_n 0 dM_text_63 rfl rfl ?_
  refine a_iload_n 1 dM_text_64 rfl rfl ?_
  refine a_iload_n 2 dM_text_65 rfl rfl ?_
  refine a_callV (Q' := m_res (some (.int 1)) (m_row (m_row (m_row (m_row I 95 (va_up (va_up (I 95) 0 (nI 0)) 10 (nI len))) 97 (va_up (I 97) 0 (nI 0))) 98 (va_up (I 98) 0 (nI 0))) 99 (va_up (I 99) 0 (-1))) J R) (as := [.int (nI 1), .int (nI 1)]) (st := []) dM_text_66 ml12_242 rfl (Nat.le_of_ble_eq_true rfl) ly_95 rfl rfl (by decide) (by omega) (Nat.le_of_ble_eq_true rfl) rfl (Nat.le_refl _) (Nat.le_refl _) (by have q := c_M_is (S := S) (d := d + 7) (n := n) (I := (m_row (m_row (m_row (m_row I 95 (va_up (va_up (I 95) 0 (nI 0)) 10 (nI len))) 97 (va_up (I 97) 0 (nI 0))) 98 (va_up (I 98) 0 (nI 0))) 99 (va_up (I 99) 0 (-1)))) (J := J) (R := R) (s := 1) (k := (nI 1)) hn hR (by decide); rw [show (m_row (m_row (m_row (m_row I 95 (va_up (va_up (I 95) 0 (nI 0)) 10 (nI len))) 97 (va_up (I 97) 0 (nI 0))) 98 (va_up (I 98) 0 (nI 0))) 99 (va_up (I 99) 0 (-1))) 100 1 = I 100 1 from rfl, h] at q; exact q) (m_go ?_)
  show AW _ _ _ _ _ _ _ _ [.int 1] _ _ _ _
  refine a_if_ne (tgt := 75) dM_text_69 (by decide) (fun _ => ?_) (fun c => False.elim (absurd c (by decide)))
  refine a_aload_n 0 dM_text_75 rfl rfl ?_
  refine a_iload_n 1 dM_text_76 rfl rfl ?_
  refine a_mem (show (m_row (m_row (m_row (m_row I 95 (va_up (va_up (I 95) 0 (nI 0)) 10 (nI len))) 97 (va_up (I 97) 0 (nI 0))) 98 (va_up (I 98) 0 (nI 0))) 99 (va_up (I 99) 0 (-1))) = mRd (m_row (m_row (m_row I 97 (va_up (I 97) 0 (nI 0))) 98 (va_up (I 98) 0 (nI 0))) 99 (va_up (I 99) 0 (-1))) (va_up (va_up (I 95) 0 (nI 0)) 10 (nI len)) (I 104) (I 105) from mR_in) ?_
  refine a_callV (Q' := rtQ (m_row (m_row (m_row I 97 (va_up (I 97) 0 (nI 0))) 98 (va_up (I 98) 0 (nI 0))) 99 (va_up (I 99) 0 (-1))) R (rdA (I 96) len 1 (len + 1) 0 (0, 0, -1, -1, DiA (I 104) 1))) (as := [.int (nI 1)]) (st := []) dM_text_77 ml12_245 rfl (Nat.le_of_ble_eq_true rfl) ly_95 rfl rfl (by decide) (by omega) (Nat.le_of_ble_eq_true rfl) rfl (Nat.le_refl _) (Nat.le_refl _) (r_readText (I := (m_row (m_row (m_row I 97 (va_up (I 97) 0 (nI 0))) 98 (va_up (I 98) 0 (nI 0))) 99 (va_up (I 99) 0 (-1)))) (F := (va_up (va_up (I 95) 0 (nI 0)) 10 (nI len))) (D := I 104) (A := I 105) hn hR hl6 hby rfl (by decide)) ?_
  intro v9 I9 J9 R9 ⟨e3, e1, g98, g99, g104, fr⟩
  rw [e3, e1, if_pos hf0]
  have g100 : I9 100 = I 100 := fr 100 (by decide) (by decide) (by decide) (by decide) (by decide)
  have gc : I9 102 = I 102 := fr 102 (by decide) (by decide) (by decide) (by decide) (by decide)
  refine a_mem (show I9 = m_row I9 100 (I9 100) from (m_row_self).symm) ?_
  show AW _ _ _ _ _ _ _ _ [.int (nI 1)] _ _ _ _
  refine a_if_ne (tgt := 85) dM_text_80 (by decide) (fun _ => ?_) (fun c => False.elim (absurd c (by decide)))
  refine a_iload_n 2 dM_text_85 rfl rfl ?_
  refine a_iconst (v := -1) dM_text_86 (by decide) ?_
  refine a_icmp_ne (tgt := 99) dM_text_87 (by decide) (fun _ => ?_) (fun c => False.elim (absurd c (by decide)))
  refine a_iload_n 2 dM_text_99 rfl rfl ?_
  refine a_istore_n (lv' := [(3, .int (nI 1)), (0, .ref 95), (1, .int (nI 1)), (2, .int (nI 1))]) dM_text_100 rfl (by decide) rfl ?_
  refine a_aload_n 1 dM_text_101 rfl rfl ?_
  refine a_geta (r := 100) dM_text_102 fl12_23 rfl ly_95 (by omega) (rf_95_5 hR) ?_
  refine a_iload_n 2 dM_text_105 rfl rfl ?_
  refine a_dup2 dM_text_106 rfl rfl ?_
  refine a_ialdN (a := 1) dM_text_107 ly_100 (by omega) (by omega) (by decide) ?_
  rw [show (m_row I9 100 (I9 100)) 100 1 = I9 100 1 from rfl]
  refine a_iload_n 3 dM_text_108 rfl rfl ?_
  refine a_iconst (v := -1) dM_text_109 (by decide) ?_
  refine a_icmp_ne (tgt := 117) dM_text_110 (by decide) (fun _ => ?_) (fun c => False.elim (absurd c (by decide)))
  refine a_iconstN (a := 0) dM_text_117 (by decide) ?_
  refine a_iadd dM_text_118 ?_
  refine a_iastN (a := 1) dM_text_119 ly_100 (by omega) (by omega) (by decide) ?_
  rw [show m_up (m_row I9 100 (I9 100)) 100 1 ((I9 100 1) + (nI 0)) = (m_row I9 100 (va_up (I9 100) 1 ((I9 100 1) + (nI 0)))) from (by rw [m_up_r])]
  refine a_iload_n 2 dM_text_120 rfl rfl ?_
  refine a_if_ne (tgt := 138) dM_text_121 (by decide) (fun _ => ?_) (fun c => False.elim (absurd c (by decide)))
  refine a_iload_n 2 dM_text_138 rfl rfl ?_
  refine a_iconstN (a := 1) dM_text_139 (by decide) ?_
  refine a_icmp_neN (tgt := 157) dM_text_140 (by decide) (by omega) (by omega) (fun c => False.elim (by omega)) (fun _ => ?_)
  refine a_aload_n 1 dM_text_143 rfl rfl ?_
  refine a_aload_n 1 dM_text_144 rfl rfl ?_
  refine a_geta (r := 102) dM_text_145 fl12_29 rfl ly_95 (by omega) (rf_95_7 hR) ?_
  refine a_bipushN (a := 121) dM_text_148 (by decide) ?_
  refine a_iload_n 0 dM_text_150 rfl rfl ?_
  refine a_callV (Q' := m_res none (m_row (m_row I9 100 (va_up (I9 100) 1 ((I9 100 1) + (nI 0)))) 102 (stF ((m_row I9 100 (va_up (I9 100) 1 ((I9 100 1) + (nI 0)))) 104) ((m_row I9 100 (va_up (I9 100) 1 ((I9 100 1) + (nI 0)))) 102) (121 * 1) 121)) J9 R) (as := [.ref 102, .int (nI 121), .int (nI 1)]) (st := []) dM_text_151 ml12_248 rfl (Nat.le_of_ble_eq_true rfl) ly_95 rfl rfl (by decide) (by omega) (Nat.le_of_ble_eq_true rfl) rfl (Nat.le_refl _) (Nat.le_refl _) (c_store1 (S := S) (d := d + 8) (n := n) (I := (m_row I9 100 (va_up (I9 100) 1 ((I9 100 1) + (nI 0))))) (J := J9) (R := R) (k := 1) hn hR (by decide)) (m_go ?_)
  show AW _ _ _ _ _ _ _ _ [] _ _ _ _
  refine a_goto (tgt := 168) dM_text_154 (by decide) ?_
  refine a_iload_n 0 dM_text_168 rfl rfl ?_
  exact a_iret dM_text_169 rfl ⟨rfl, rfl, ((m_row_ne (by decide)).trans ((m_row_ne (by decide)).trans (fr 97 (by decide) (by decide) (by decide) (by decide) (by decide)))), ((m_row_ne (by decide)).trans ((m_row_ne (by decide)).trans (g98.trans (by rw [hf0]; exact vaUU)))), ((m_row_ne (by decide)).trans ((m_row_ne (by decide)).trans (g99.trans (by rw [if_pos hf0]; exact vaUU)))), (m_row_ne (by decide)).trans ((m_row_eq).trans (by rw [g100]; exact (va_ui2 (Int32.add_zero _).symm))), (m_row_eq).trans (by rw [m_row_ne (by decide), m_row_ne (by decide), g104 hf0, gc]), fun a ha => (m_row_ne (by omega)).trans ((m_row_ne (by omega)).trans ((fr a (by omega) (by omega) (by omega) (by omega) (by omega)).trans ((m_row_ne (by omega)).trans ((m_row_ne (by omega)).trans (m_row_ne (by omega))))))⟩
theorem q_M_text2nF {S : Nat × (Nat → Int32)} {d n : Nat} {I : mI} {J : mJ} {R : mR} (hn : 122 ≤ n) (hR : m_fin R) {len : Nat} (hlen : I 97 0 = nI len) (hl6 : len ≤ 600) (hby : byT (I 96) len) (h : ¬ I 100 2 = nI 2) (hf0 : ¬ (rdA (I 96) len 2 (len + 1) 0 (0, 0, -1, -1, DiA (I 104) 2)).f = 0)  : AW S (d + 9) YM_text n n (txN I R (-1) (nI (rdA (I 96) len 2 (len + 1) 0 (0, 0, -1, -1, DiA (I 104) 2)).f) (nI (rdA (I 96) len 2 (len + 1) 0 (0, 0, -1, -1, DiA (I 104) 2)).pl) (I 100) 101 (I 101)) 0 [(0, .ref 95), (1, .int (nI 2)), (2, .int (-1))] [] I J R n := by
  refine a_mem (show I = (m_row (m_row (m_row (m_row I 95 (I 95)) 97 (I 97)) 98 (I 98)) 99 (I 99)) by rw [m_row_self, m_row_self, m_row_self, m_row_self]) ?_
  refine a_aload_n 0 dM_text_0 rfl rfl ?_
  refine a_iconstN (a := 0) dM_text_1 (by decide) ?_
  refine a_puti dM_text_2 fl12_90 rfl ly_95 (by omega) ?_
  rw [show m_up (m_row (m_row (m_row (m_row I 95 (I 95)) 97 (I 97)) 98 (I 98)) 99 (I 99)) 95 0 (nI 0) = (m_row (m_row (m_row (m_row I 95 (va_up (I 95) 0 (nI 0))) 97 (I 97)) 98 (I 98)) 99 (I 99)) from (by rw [m_up_comm (by decide), m_up_comm (by decide), m_up_comm (by decide), m_up_r])]
  refine a_aload_n 0 dM_text_5 rfl rfl ?_
  refine a_aload_n 0 dM_text_6 rfl rfl ?_
  refine a_geta (r := 97) dM_text_7 fl12_13 rfl ly_95 (by omega) (rf_95_2 hR) ?_
  refine a_iconstN (a := 0) dM_text_10 (by decide) ?_
  refine a_ialdN (a := 0) dM_text_11 ly_97 (by omega) (by omega) (by decide) ?_
  rw [show (m_row (m_row (m_row (m_row I 95 (va_up (I 95) 0 (nI 0))) 97 (I 97)) 98 (I 98)) 99 (I 99)) 97 0 = (nI len) from hlen]
  refine a_puti dM_text_12 fl12_113 rfl ly_95 (by omega) ?_
  rw [show m_up (m_row (m_row (m_row (m_row I 95 (va_up (I 95) 0 (nI 0))) 97 (I 97)) 98 (I 98)) 99 (I 99)) 95 10 (nI len) = (m_row (m_row (m_row (m_row I 95 (va_up (va_up (I 95) 0 (nI 0)) 10 (nI len))) 97 (I 97)) 98 (I 98)) 99 (I 99)) from (by rw [m_up_comm (by decide), m_up_comm (by decide), m_up_comm (by decide), m_up_r])]
  refine a_aload_n 0 dM_text_15 rfl rfl ?_
  refine a_geta (r := 97) dM_text_16 fl12_13 rfl ly_95 (by omega) (rf_95_2 hR) ?_
  refine a_iconstN (a := 0) dM_text_19 (by decide) ?_
  refine a_iconstN (a := 0) dM_text_20 (by decide) ?_
  refine a_iastN (a := 0) dM_text_21 ly_97 (by omega) (by omega) (by decide) ?_
  rw [show m_up (m_row (m_row (m_row (m_row I 95 (va_up (va_up (I 95) 0 (nI 0)) 10 (nI len))) 97 (I 97)) 98 (I 98)) 99 (I 99)) 97 0 (nI 0) = (m_row (m_row (m_row (m_row I 95 (va_up (va_up (I 95) 0 (nI 0)) 10 (nI len))) 97 (va_up (I 97) 0 (nI 0))) 98 (I 98)) 99 (I 99)) from (by rw [m_up_comm (by decide), m_up_comm (by decide), m_up_r])]
  refine a_aload_n 0 dM_text_22 rfl rfl ?_
  refine a_geta (r := 98) dM_text_23 fl12_17 rfl ly_95 (by omega) (rf_95_3 hR) ?_
  refine a_iconstN (a := 0) dM_text_26 (by decide) ?_
  refine a_iconstN (a := 0) dM_text_27 (by decide) ?_
  refine a_iastN (a := 0) dM_text_28 ly_98 (by omega) (by omega) (by decide) ?_
  rw [show m_up (m_row (m_row (m_row (m_row I 95 (va_up (va_up (I 95) 0 (nI 0)) 10 (nI len))) 97 (va_up (I 97) 0 (nI 0))) 98 (I 98)) 99 (I 99)) 98 0 (nI 0) = (m_row (m_row (m_row (m_row I 95 (va_up (va_up (I 95) 0 (nI 0)) 10 (nI len))) 97 (va_up (I 97) 0 (nI 0))) 98 (va_up (I 98) 0 (nI 0))) 99 (I 99)) from (by rw [m_up_comm (by decide), m_up_r])]
  refine a_aload_n 0 dM_text_29 rfl rfl ?_
  refine a_geta (r := 99) dM_text_30 fl12_20 rfl ly_95 (by omega) (rf_95_4 hR) ?_
  refine a_iconstN (a := 0) dM_text_33 (by decide) ?_
  refine a_iconst (v := -1) dM_text_34 (by decide) ?_
  refine a_iastN (a := 0) dM_text_35 ly_99 (by omega) (by omega) (by decide) ?_
  rw [show m_up (m_row (m_row (m_row (m_row I 95 (va_up (va_up (I 95) 0 (nI 0)) 10 (nI len))) 97 (va_up (I 97) 0 (nI 0))) 98 (va_up (I 98) 0 (nI 0))) 99 (I 99)) 99 0 (-1) = (m_row (m_row (m_row (m_row I 95 (va_up (va_up (I 95) 0 (nI 0)) 10 (nI len))) 97 (va_up (I 97) 0 (nI 0))) 98 (va_up (I 98) 0 (nI 0))) 99 (va_up (I 99) 0 (-1))) from (by rw [m_up_r])]
  refine a_iload_n 1 dM_text_36 rfl rfl ?_
  refine a_iconstN (a := 0) dM_text_37 (by decide) ?_
  refine a_iconstN (a := 2) dM_text_38 (by decide) ?_
  refine a_callS (Q' := m_res (some (.int 1)) (m_row (m_row (m_row (m_row I 95 (va_up (va_up (I 95) 0 (nI 0)) 10 (nI len))) 97 (va_up (I 97) 0 (nI 0))) 98 (va_up (I 98) 0 (nI 0))) 99 (va_up (I 99) 0 (-1))) J R) (as := [.int (nI 2), .int (nI 0), .int (nI 2)]) (st := []) dM_text_39 ml12_102 rfl (Nat.le_of_ble_eq_true rfl) (Nat.le_of_ble_eq_true rfl) rfl (Nat.le_refl _) (Nat.le_refl _) (c_M_inE (f_in_n (by decide) (by decide) (by decide))) (m_go ?_)
  show AW _ _ _ _ _ _ _ _ [.int 1] _ _ _ _
  refine a_if_eq (tgt := 72) dM_text_42 (by decide) (fun c => False.elim (absurd c (by decide))) (fun _ => ?_)
  refine a_iload_n 2 dM_text_45 rfl rfl ?_
  refine a_iconst (v := -1) dM_text_46 (by decide) ?_
  refine a_icmp_ne (tgt := 63) dM_text_47 (by decide) (fun c => False.elim (c rfl)) (fun _ => ?_)
  refine a_aload_n 0 dM_text_50 rfl rfl ?_
  refine a_geta (r := 100) dM_text_51 fl12_23 rfl ly_95 (by omega) (rf_95_5 hR) ?_
  refine a_iload_n 1 dM_text_54 rfl rfl ?_
  refine a_ialdN (a := 2) dM_text_55 ly_100 (by omega) (by omega) (by decide) ?_
  rw [show (m_row (m_row (m_row (m_row I 95 (va_up (va_up (I 95) 0 (nI 0)) 10 (nI len))) 97 (va_up (I 97) 0 (nI 0))) 98 (va_up (I 98) 0 (nI 0))) 99 (va_up (I 99) 0 (-1))) 100 2 = I 100 2 from rfl]
  refine a_iconstN (a := 2) dM_text_56 (by decide) ?_
  refine a_icmp_ne (tgt := 75) dM_text_57 (by decide) (fun _ => ?_) (fun c => False.elim (h c))
  refine a_aload_n 0 dM_text_75 rfl rfl ?_
  refine a_iload_n 1 dM_text_76 rfl rfl ?_
  refine a_mem (show (m_row (m_row (m_row (m_row I 95 (va_up (va_up (I 95) 0 (nI 0)) 10 (nI len))) 97 (va_up (I 97) 0 (nI 0))) 98 (va_up (I 98) 0 (nI 0))) 99 (va_up (I 99) 0 (-1))) = mRd (m_row (m_row (m_row I 97 (va_up (I 97) 0 (nI 0))) 98 (va_up (I 98) 0 (nI 0))) 99 (va_up (I 99) 0 (-1))) (va_up (va_up (I 95) 0 (nI 0)) 10 (nI len)) (I 104) (I 105) from mR_in) ?_
  refine a_callV (Q' := rtQ (m_row (m_row (m_row I 97 (va_up (I 97) 0 (nI 0))) 98 (va_up (I 98) 0 (nI 0))) 99 (va_up (I 99) 0 (-1))) R (rdA (I 96) len 2 (len + 1) 0 (0, 0, -1, -1, DiA (I 104) 2))) (as := [.int (nI 2)]) (st := []) dM_text_77 ml12_245 rfl (Nat.le_of_ble_eq_true rfl) ly_95 rfl rfl (by decide) (by omega) (Nat.le_of_ble_eq_true rfl) rfl (Nat.le_refl _) (Nat.le_refl _) (r_readText (I := (m_row (m_row (m_row I 97 (va_up (I 97) 0 (nI 0))) 98 (va_up (I 98) 0 (nI 0))) 99 (va_up (I 99) 0 (-1)))) (F := (va_up (va_up (I 95) 0 (nI 0)) 10 (nI len))) (D := I 104) (A := I 105) hn hR hl6 hby rfl (by decide)) ?_
  intro v9 I9 J9 R9 ⟨e3, e1, g98, g99, g104, fr⟩
  rw [e3, e1, if_neg hf0]
  show AW _ _ _ _ _ _ _ _ [.int (nI 0)] _ _ _ _
  refine a_if_ne (tgt := 85) dM_text_80 (by decide) (fun c => False.elim (c rfl)) (fun _ => ?_)
  refine a_iconst (v := -1) dM_text_83 (by decide) ?_
  exact a_iret dM_text_84 rfl ⟨rfl, rfl, fr 97 (by decide) (by decide) (by decide) (by decide) (by decide), g98.trans (by show va_up (va_up (I 98) 0 (nI 0)) 0 _ = _; exact vaUU), g99.trans (by rw [if_neg hf0]; exact vaUU), fr 100 (by decide) (by decide) (by decide) (by decide) (by decide), fr 101 (by decide) (by decide) (by decide) (by decide) (by decide), fun a ha => (fr a (by omega) (by omega) (by omega) (by omega) (by omega)).trans ((m_row_ne (by omega)).trans ((m_row_ne (by omega)).trans (m_row_ne (by omega))))⟩
theorem q_M_text2n0 {S : Nat × (Nat → Int32)} {d n : Nat} {I : mI} {J : mJ} {R : mR} (hn : 122 ≤ n) (hR : m_fin R) {len : Nat} (hlen : I 97 0 = nI len) (hl6 : len ≤ 600) (hby : byT (I 96) len) (h3 : I 100 2 = nI 0) (hf0 : (rdA (I 96) len 2 (len + 1) 0 (0, 0, -1, -1, DiA (I 104) 2)).f = 0)  : AW S (d + 9) YM_text n n (txN I R (nI 0) (nI 0) (-1) (va_up (I 100) 2 (nI 1)) 103 (stF (rdA (I 96) len 2 (len + 1) 0 (0, 0, -1, -1, DiA (I 104) 2)).D (I 103) (17 * 0) 17)) 0 [(0, .ref 95), (1, .int (nI 2)), (2, .int (-1))] [] I J R n := by
  refine a_mem (show I = (m_row (m_row (m_row (m_row I 95 (I 95)) 97 (I 97)) 98 (I 98)) 99 (I 99)) by rw [m_row_self, m_row_self, m_row_self, m_row_self]) ?_
  refine a_aload_n 0 dM_text_0 rfl rfl ?_
  refine a_iconstN (a := 0) dM_text_1 (by decide) ?_
  refine a_puti dM_text_2 fl12_90 rfl ly_95 (by omega) ?_
  rw [show m_up (m_row (m_row (m_row (m_row I 95 (I 95)) 97 (I 97)) 98 (I 98)) 99 (I 99)) 95 0 (nI 0) = (m_row (m_row (m_row (m_row I 95 (va_up (I 95) 0 (nI 0))) 97 (I 97)) 98 (I 98)) 99 (I 99)) from (by rw [m_up_comm (by decide), m_up_comm (by decide), m_up_comm (by decide), m_up_r])]
  refine a_aload_n 0 dM_text_5 rfl rfl ?_
  refine a_aload_n 0 dM_text_6 rfl rfl ?_
  refine a_geta (r := 97) dM_text_7 fl12_13 rfl ly_95 (by omega) (rf_95_2 hR) ?_
  refine a_iconstN (a := 0) dM_text_10 (by decide) ?_
  refine a_ialdN (a := 0) dM_text_11 ly_97 (by omega) (by omega) (by decide) ?_
  rw [show (m_row (m_row (m_row (m_row I 95 (va_up (I 95) 0 (nI 0))) 97 (I 97)) 98 (I 98)) 99 (I 99)) 97 0 = (nI len) from hlen]
  refine a_puti dM_text_12 fl12_113 rfl ly_95 (by omega) ?_
  rw [show m_up (m_row (m_row (m_row (m_row I 95 (va_up (I 95) 0 (nI 0))) 97 (I 97)) 98 (I 98)) 99 (I 99)) 95 10 (nI len) = (m_row (m_row (m_row (m_row I 95 (va_up (va_up (I 95) 0 (nI 0)) 10 (nI len))) 97 (I 97)) 98 (I 98)) 99 (I 99)) from (by rw [m_up_comm (by decide), m_up_comm (by decide), m_up_comm (by decide), m_up_r])]
  refine a_aload_n 0 dM_text_15 rfl rfl ?_
  refine a_geta (r := 97) dM_text_16 fl12_13 rfl ly_95 (by omega) (rf_95_2 hR) ?_
  refine a_iconstN (a := 0) dM_text_19 (by decide) ?_
  refine a_iconstN (a := 0) dM_text_20 (by decide) ?_
  refine a_iastN (a := 0) dM_text_21 ly_97 (by omega) (by omega) (by decide) ?_
  rw [show m_up (m_row (m_row (m_row (m_row I 95 (va_up (va_up (I 95) 0 (nI 0)) 10 (nI len))) 97 (I 97)) 98 (I 98)) 99 (I 99)) 97 0 (nI 0) = (m_row (m_row (m_row (m_row I 95 (va_up (va_up (I 95) 0 (nI 0)) 10 (nI len))) 97 (va_up (I 97) 0 (nI 0))) 98 (I 98)) 99 (I 99)) from (by rw [m_up_comm (by decide), m_up_comm (by decide), m_up_r])]
  refine a_aload_n 0 dM_text_22 rfl rfl ?_
  refine a_geta (r := 98) dM_text_23 fl12_17 rfl ly_95 (by omega) (rf_95_3 hR) ?_
  refine a_iconstN (a := 0) dM_text_26 (by decide) ?_
  refine a_iconstN (a := 0) dM_text_27 (by decide) ?_
  refine a_iastN (a := 0) dM_text_28 ly_98 (by omega) (by omega) (by decide) ?_
  rw [show m_up (m_row (m_row (m_row (m_row I 95 (va_up (va_up (I 95) 0 (nI 0)) 10 (nI len))) 97 (va_up (I 97) 0 (nI 0))) 98 (I 98)) 99 (I 99)) 98 0 (nI 0) = (m_row (m_row (m_row (m_row I 95 (va_up (va_up (I 95) 0 (nI 0)) 10 (nI len))) 97 (va_up (I 97) 0 (nI 0))) 98 (va_up (I 98) 0 (nI 0))) 99 (I 99)) from (by rw [m_up_comm (by decide), m_up_r])]
  refine a_aload_n 0 dM_text_29 rfl rfl ?_
  refine a_geta (r := 99) dM_text_30 fl12_20 rfl ly_95 (by omega) (rf_95_4 hR) ?_
  refine a_iconstN (a := 0) dM_text_33 (by decide) ?_
  refine a_iconst (v := -1) dM_text_34 (by decide) ?_
  refine a_iastN (a := 0) dM_text_35 ly_99 (by omega) (by omega) (by decide) ?_
  rw [show m_up (m_row (m_row (m_row (m_row I 95 (va_up (va_up (I 95) 0 (nI 0)) 10 (nI len))) 97 (va_up (I 97) 0 (nI 0))) 98 (va_up (I 98) 0 (nI 0))) 99 (I 99)) 99 0 (-1) = (m_row (m_row (m_row (m_row I 95 (va_up (va_up (I 95) 0 (nI 0)) 10 (nI len))) 97 (va_up (I 97) 0 (nI 0))) 98 (va_up (I 98) 0 (nI 0))) 99 (va_up (I 99) 0 (-1))) from (by rw [m_up_r])]
  refine a_iload_n 1 dM_text_36 rfl rfl ?_
  refine a_iconstN (a := 0) dM_text_37 (by decide) ?_
  refine a_iconstN (a := 2) dM_text_38 (by decide) ?_
  refine a_callS (Q' := m_res (some (.int 1)) (m_row (m_row (m_row (m_row I 95 (va_up (va_up (I 95) 0 (nI 0)) 10 (nI len))) 97 (va_up (I 97) 0 (nI 0))) 98 (va_up (I 98) 0 (nI 0))) 99 (va_up (I 99) 0 (-1))) J R) (as := [.int (nI 2), .int (nI 0), .int (nI 2)]) (st := []) dM_text_39 ml12_102 rfl (Nat.le_of_ble_eq_true rfl) (Nat.le_of_ble_eq_true rfl) rfl (Nat.le_refl _) (Nat.le_refl _) (c_M_inE (f_in_n (by decide) (by decide) (by decide))) (m_go ?_)
  show AW _ _ _ _ _ _ _ _ [.int 1] _ _ _ _
  refine a_if_eq (tgt := 72) dM_text_42 (by decide) (fun c => False.elim (absurd c (by decide))) (fun _ => ?_)
  refine a_iload_n 2 dM_text_45 rfl rfl ?_
  refine a_iconst (v := -1) dM_text_46 (by decide) ?_
  refine a_icmp_ne (tgt := 63) dM_text_47 (by decide) (fun c => False.elim (c rfl)) (fun _ => ?_)
  refine a_aload_n 0 dM_text_50 rfl rfl ?_
  refine a_geta (r := 100) dM_text_51 fl12_23 rfl ly_95 (by omega) (rf_95_5 hR) ?_
  refine a_iload_n 1 dM_text_54 rfl rfl ?_
  refine a_ialdN (a := 2) dM_text_55 ly_100 (by omega) (by omega) (by decide) ?_
  rw [show (m_row (m_row (m_row (m_row I 95 (va_up (va_up (I 95) 0 (nI 0)) 10 (nI len))) 97 (va_up (I 97) 0 (nI 0))) 98 (va_up (I 98) 0 (nI 0))) 99 (va_up (I 99) 0 (-1))) 100 2 = I 100 2 from rfl]
  refine a_iconstN (a := 2) dM_text_56 (by decide) ?_
  refine a_icmp_ne (tgt := 75) dM_text_57 (by decide) (fun _ => ?_) (fun c => False.elim (absurd (h3.symm.trans c) (by decide)))
  refine a_aload_n 0 dM_text_75 rfl rfl ?_
  refine a_iload_n 1 dM_text_76 rfl rfl ?_
  refine a_mem (show (m_row (m_row (m_row (m_row I 95 (va_up (va_up (I 95) 0 (nI 0)) 10 (nI len))) 97 (va_up (I 97) 0 (nI 0))) 98 (va_up (I 98) 0 (nI 0))) 99 (va_up (I 99) 0 (-1))) = mRd (m_row (m_row (m_row I 97 (va_up (I 97) 0 (nI 0))) 98 (va_up (I 98) 0 (nI 0))) 99 (va_up (I 99) 0 (-1))) (va_up (va_up (I 95) 0 (nI 0)) 10 (nI len)) (I 104) (I 105) from mR_in) ?_
  refine a_callV (Q' := rtQ (m_row (m_row (m_row I 97 (va_up (I 97) 0 (nI 0))) 98 (va_up (I 98) 0 (nI 0))) 99 (va_up (I 99) 0 (-1))) R (rdA (I 96) len 2 (len + 1) 0 (0, 0, -1, -1, DiA (I 104) 2))) (as := [.int (nI 2)]) (st := []) dM_text_77 ml12_245 rfl (Nat.le_of_ble_eq_true rfl) ly_95 rfl rfl (by decide) (by omega) (Nat.le_of_ble_eq_true rfl) rfl (Nat.le_refl _) (Nat.le_refl _) (r_readText (I := (m_row (m_row (m_row I 97 (va_up (I 97) 0 (nI 0))) 98 (va_up (I 98) 0 (nI 0))) 99 (va_up (I 99) 0 (-1)))) (F := (va_up (va_up (I 95) 0 (nI 0)) 10 (nI len))) (D := I 104) (A := I 105) hn hR hl6 hby rfl (by decide)) ?_
  intro v9 I9 J9 R9 ⟨e3, e1, g98, g99, g104, fr⟩
  rw [e3, e1, if_pos hf0]
  have g100 : I9 100 = I 100 := fr 100 (by decide) (by decide) (by decide) (by decide) (by decide)
  have gc : I9 103 = I 103 := fr 103 (by decide) (by decide) (by decide) (by decide) (by decide)
  refine a_mem (show I9 = m_row I9 100 (I9 100) from (m_row_self).symm) ?_
  show AW _ _ _ _ _ _ _ _ [.int (nI 1)] _ _ _ _
  refine a_if_ne (tgt := 85) dM_text_80 (by decide) (fun _ => ?_) (fun c => False.elim (absurd c (by decide)))
  refine a_iload_n 2 dM_text_85 rfl rfl ?_
  refine a_iconst (v := -1) dM_text_86 (by decide) ?_
  refine a_icmp_ne (tgt := 99) dM_text_87 (by decide) (fun c => False.elim (c rfl)) (fun _ => ?_)
  refine a_aload_n 0 dM_text_90 rfl rfl ?_
  refine a_geta (r := 100) dM_text_91 fl12_23 rfl ly_95 (by omega) (rf_95_5 hR) ?_
  refine a_iload_n 1 dM_text_94 rfl rfl ?_
  refine a_ialdN (a := 2) dM_text_95 ly_100 (by omega) (by omega) (by decide) ?_
  rw [show (m_row I9 100 (I9 100)) 100 2 = (nI 0) from (by rw [m_row_eq, g100]; exact h3)]
  refine a_goto (tgt := 100) dM_text_96 (by decide) ?_
  refine a_istore_n (lv' := [(3, .int (nI 0)), (0, .ref 95), (1, .int (nI 2)), (2, .int (-1))]) dM_text_100 rfl (by decide) rfl ?_
  refine a_aload_n 1 dM_text_101 rfl rfl ?_
  refine a_geta (r := 100) dM_text_102 fl12_23 rfl ly_95 (by omega) (rf_95_5 hR) ?_
  refine a_iload_n 2 dM_text_105 rfl rfl ?_
  refine a_dup2 dM_text_106 rfl rfl ?_
  refine a_ialdN (a := 2) dM_text_107 ly_100 (by omega) (by omega) (by decide) ?_
  rw [show (m_row I9 100 (I9 100)) 100 2 = (nI 0) from (by rw [m_row_eq, g100]; exact h3)]
  refine a_iload_n 3 dM_text_108 rfl rfl ?_
  refine a_iconst (v := -1) dM_text_109 (by decide) ?_
  refine a_icmp_ne (tgt := 117) dM_text_110 (by decide) (fun c => False.elim (c rfl)) (fun _ => ?_)
  refine a_iconstN (a := 1) dM_text_113 (by decide) ?_
  refine a_goto (tgt := 118) dM_text_114 (by decide) ?_
  refine a_iaddN (a := 0) (b := 1) dM_text_118 ?_
  refine a_iastN (a := 2) dM_text_119 ly_100 (by omega) (by omega) (by decide) ?_
  rw [show m_up (m_row I9 100 (I9 100)) 100 2 (nI (0 + 1)) = (m_row I9 100 (va_up (I9 100) 2 (nI (0 + 1)))) from (by rw [m_up_r])]
  refine a_iload_n 2 dM_text_120 rfl rfl ?_
  refine a_if_ne (tgt := 138) dM_text_121 (by decide) (fun _ => ?_) (fun c => False.elim (absurd c (by decide)))
  refine a_iload_n 2 dM_text_138 rfl rfl ?_
  refine a_iconstN (a := 1) dM_text_139 (by decide) ?_
  refine a_icmp_neN (tgt := 157) dM_text_140 (by decide) (by omega) (by omega) (fun _ => ?_) (fun c => False.elim (by omega))
  refine a_aload_n 1 dM_text_157 rfl rfl ?_
  refine a_aload_n 1 dM_text_158 rfl rfl ?_
  refine a_geta (r := 103) dM_text_159 fl12_32 rfl ly_95 (by omega) (rf_95_8 hR) ?_
  refine a_bipushN (a := 17) dM_text_162 (by decide) ?_
  refine a_iload_n 0 dM_text_164 rfl rfl ?_
  refine a_callV (Q' := m_res none (m_row (m_row I9 100 (va_up (I9 100) 2 (nI (0 + 1)))) 103 (stF ((m_row I9 100 (va_up (I9 100) 2 (nI (0 + 1)))) 104) ((m_row I9 100 (va_up (I9 100) 2 (nI (0 + 1)))) 103) (17 * 0) 17)) J9 R) (as := [.ref 103, .int (nI 17), .int (nI 0)]) (st := []) dM_text_165 ml12_248 rfl (Nat.le_of_ble_eq_true rfl) ly_95 rfl rfl (by decide) (by omega) (Nat.le_of_ble_eq_true rfl) rfl (Nat.le_refl _) (Nat.le_refl _) (c_store2 (S := S) (d := d + 8) (n := n) (I := (m_row I9 100 (va_up (I9 100) 2 (nI (0 + 1))))) (J := J9) (R := R) (k := 0) hn hR (by decide)) (m_go ?_)
  show AW _ _ _ _ _ _ _ _ [] _ _ _ _
  refine a_iload_n 0 dM_text_168 rfl rfl ?_
  exact a_iret dM_text_169 rfl ⟨rfl, rfl, ((m_row_ne (by decide)).trans ((m_row_ne (by decide)).trans (fr 97 (by decide) (by decide) (by decide) (by decide) (by decide)))), ((m_row_ne (by decide)).trans ((m_row_ne (by decide)).trans (g98.trans (by rw [hf0]; exact vaUU)))), ((m_row_ne (by decide)).trans ((m_row_ne (by decide)).trans (g99.trans (by rw [if_pos hf0]; exact vaUU)))), (m_row_ne (by decide)).trans ((m_row_eq).trans (by rw [g100])), (m_row_eq).trans (by rw [m_row_ne (by decide), m_row_ne (by decide), g104 hf0, gc]), fun a ha => (m_row_ne (by omega)).trans ((m_row_ne (by omega)).trans ((fr a (by omega) (by omega) (by omega) (by omega) (by omega)).trans ((m_row_ne (by omega)).trans ((m_row_ne (by omega)).trans (m_row_ne (by omega))))))⟩
theorem q_M_text2n1 {S : Nat × (Nat → Int32)} {d n : Nat} {I : mI} {J : mJ} {R : mR} (hn : 122 ≤ n) (hR : m_fin R) {len : Nat} (hlen : I 97 0 = nI len) (hl6 : len ≤ 600) (hby : byT (I 96) len) (h3 : I 100 2 = nI 1) (hf0 : (rdA (I 96) len 2 (len + 1) 0 (0, 0, -1, -1, DiA (I 104) 2)).f = 0)  : AW S (d + 9) YM_text n n (txN I R (nI 1) (nI 0) (-1) (va_up (I 100) 2 (nI 2)) 103 (stF (rdA (I 96) len 2 (len + 1) 0 (0, 0, -1, -1, DiA (I 104) 2)).D (I 103) (17 * 1) 17)) 0 [(0, .ref 95), (1, .int (nI 2)), (2, .int (-1))] [] I J R n := by
  refine a_mem (show I = (m_row (m_row (m_row (m_row I 95 (I 95)) 97 (I 97)) 98 (I 98)) 99 (I 99)) by rw [m_row_self, m_row_self, m_row_self, m_row_self]) ?_
  refine a_aload_n 0 dM_text_0 rfl rfl ?_
  refine a_iconstN (a := 0) dM_text_1 (by decide) ?_
  refine a_puti dM_text_2 fl12_90 rfl ly_95 (by omega) ?_
  rw [show m_up (m_row (m_row (m_row (m_row I 95 (I 95)) 97 (I 97)) 98 (I 98)) 99 (I 99)) 95 0 (nI 0) = (m_row (m_row (m_row (m_row I 95 (va_up (I 95) 0 (nI 0))) 97 (I 97)) 98 (I 98)) 99 (I 99)) from (by rw [m_up_comm (by decide), m_up_comm (by decide), m_up_comm (by decide), m_up_r])]
  refine a_aload_n 0 dM_text_5 rfl rfl ?_
  refine a_aload_n 0 dM_text_6 rfl rfl ?_
  refine a_geta (r := 97) dM_text_7 fl12_13 rfl ly_95 (by omega) (rf_95_2 hR) ?_
  refine a_iconstN (a := 0) dM_text_10 (by decide) ?_
  refine a_ialdN (a := 0) dM_text_11 ly_97 (by omega) (by omega) (by decide) ?_
  rw [show (m_row (m_row (m_row (m_row I 95 (va_up (I 95) 0 (nI 0))) 97 (I 97)) 98 (I 98)) 99 (I 99)) 97 0 = (nI len) from hlen]
  refine a_puti dM_text_12 fl12_113 rfl ly_95 (by omega) ?_
  rw [show m_up (m_row (m_row (m_row (m_row I 95 (va_up (I 95) 0 (nI 0))) 97 (I 97)) 98 (I 98)) 99 (I 99)) 95 10 (nI len) = (m_row (m_row (m_row (m_row I 95 (va_up (va_up (I 95) 0 (nI 0)) 10 (nI len))) 97 (I 97)) 98 (I 98)) 99 (I 99)) from (by rw [m_up_comm (by decide), m_up_comm (by decide), m_up_comm (by decide), m_up_r])]
  refine a_aload_n 0 dM_text_15 rfl rfl ?_
  refine a_geta (r := 97) dM_text_16 fl12_13 rfl ly_95 (by omega) (rf_95_2 hR) ?_
  refine a_iconstN (a := 0) dM_text_19 (by decide) ?_
  refine a_iconstN (a := 0) dM_text_20 (by decide) ?_
  refine a_iastN (a := 0) dM_text_21 ly_97 (by omega) (by omega) (by decide) ?_
  rw [show m_up (m_row (m_row (m_row (m_row I 95 (va_up (va_up (I 95) 0 (nI 0)) 10 (nI len))) 97 (I 97)) 98 (I 98)) 99 (I 99)) 97 0 (nI 0) = (m_row (m_row (m_row (m_row I 95 (va_up (va_up (I 95) 0 (nI 0)) 10 (nI len))) 97 (va_up (I 97) 0 (nI 0))) 98 (I 98)) 99 (I 99)) from (by rw [m_up_comm (by decide), m_up_comm (by decide), m_up_r])]
  refine a_aload_n 0 dM_text_22 rfl rfl ?_
  refine a_geta (r := 98) dM_text_23 fl12_17 rfl ly_95 (by omega) (rf_95_3 hR) ?_
  refine a_iconstN (a := 0) dM_text_26 (by decide) ?_
  refine a_iconstN (a := 0) dM_text_27 (by decide) ?_
  refine a_iastN (a := 0) dM_text_28 ly_98 (by omega) (by omega) (by decide) ?_
  rw [show m_up (m_row (m_row (m_row (m_row I 95 (va_up (va_up (I 95) 0 (nI 0)) 10 (nI len))) 97 (va_up (I 97) 0 (nI 0))) 98 (I 98)) 99 (I 99)) 98 0 (nI 0) = (m_row (m_row (m_row (m_row I 95 (va_up (va_up (I 95) 0 (nI 0)) 10 (nI len))) 97 (va_up (I 97) 0 (nI 0))) 98 (va_up (I 98) 0 (nI 0))) 99 (I 99)) from (by rw [m_up_comm (by decide), m_up_r])]
  refine a_aload_n 0 dM_text_29 rfl rfl ?_
  refine a_geta (r := 99) dM_text_30 fl12_20 rfl ly_95 (by omega) (rf_95_4 hR) ?_
  refine a_iconstN (a := 0) dM_text_33 (by decide) ?_
  refine a_iconst (v := -1) dM_text_34 (by decide) ?_
  refine a_iastN (a := 0) dM_text_35 ly_99 (by omega) (by omega) (by decide) ?_
  rw [show m_up (m_row (m_row (m_row (m_row I 95 (va_up (va_up (I 95) 0 (nI 0)) 10 (nI len))) 97 (va_up (I 97) 0 (nI 0))) 98 (va_up (I 98) 0 (nI 0))) 99 (I 99)) 99 0 (-1) = (m_row (m_row (m_row (m_row I 95 (va_up (va_up (I 95) 0 (nI 0)) 10 (nI len))) 97 (va_up (I 97) 0 (nI 0))) 98 (va_up (I 98) 0 (nI 0))) 99 (va_up (I 99) 0 (-1))) from (by rw [m_up_r])]
  refine a_iload_n 1 dM_text_36 rfl rfl ?_
  refine a_iconstN (a := 0) dM_text_37 (by decide) ?_
  refine a_iconstN (a := 2) dM_text_38 (by decide) ?_
  refine a_callS (Q' := m_res (some (.int 1)) (m_row (m_row (m_row (m_row I 95 (va_up (va_up (I 95) 0 (nI 0)) 10 (nI len))) 97 (va_up (I 97) 0 (nI 0))) 98 (va_up (I 98) 0 (nI 0))) 99 (va_up (I 99) 0 (-1))) J R) (as := [.int (nI 2), .int (nI 0), .int (nI 2)]) (st := []) dM_text_39 ml12_102 rfl (Nat.le_of_ble_eq_true rfl) (Nat.le_of_ble_eq_true rfl) rfl (Nat.le_refl _) (Nat.le_refl _) (c_M_inE (f_in_n (by decide) (by decide) (by decide))) (m_go ?_)
  show AW _ _ _ _ _ _ _ _ [.int 1] _ _ _ _
  refine a_if_eq (tgt := 72) dM_text_42 (by decide) (fun c => False.elim (absurd c (by decide))) (fun _ => ?_)
  refine a_iload_n 2 dM_text_45 rfl rfl ?_
  refine a_iconst (v := -1) dM_text_46 (by decide) ?_
  refine a_icmp_ne (tgt := 63) dM_text_47 (by decide) (fun c => False.elim (c rfl)) (fun _ => ?_)
  refine a_aload_n 0 dM_text_50 rfl rfl ?_
  refine a_geta (r := 100) dM_text_51 fl12_23 rfl ly_95 (by omega) (rf_95_5 hR) ?_
  refine a_iload_n 1 dM_text_54 rfl rfl ?_
  refine a_ialdN (a := 2) dM_text_55 ly_100 (by omega) (by omega) (by decide) ?_
  rw [show (m_row (m_row (m_row (m_row I 95 (va_up (va_up (I 95) 0 (nI 0)) 10 (nI len))) 97 (va_up (I 97) 0 (nI 0))) 98 (va_up (I 98) 0 (nI 0))) 99 (va_up (I 99) 0 (-1))) 100 2 = I 100 2 from rfl]
  refine a_iconstN (a := 2) dM_text_56 (by decide) ?_
  refine a_icmp_ne (tgt := 75) dM_text_57 (by decide) (fun _ => ?_) (fun c => False.elim (absurd (h3.symm.trans c) (by decide)))
  refine a_aload_n 0 dM_text_75 rfl rfl ?_
  refine a_iload_n 1 dM_text_76 rfl rfl ?_
  refine a_mem (show (m_row (m_row (m_row (m_row I 95 (va_up (va_up (I 95) 0 (nI 0)) 10 (nI len))) 97 (va_up (I 97) 0 (nI 0))) 98 (va_up (I 98) 0 (nI 0))) 99 (va_up (I 99) 0 (-1))) = mRd (m_row (m_row (m_row I 97 (va_up (I 97) 0 (nI 0))) 98 (va_up (I 98) 0 (nI 0))) 99 (va_up (I 99) 0 (-1))) (va_up (va_up (I 95) 0 (nI 0)) 10 (nI len)) (I 104) (I 105) from mR_in) ?_
  refine a_callV (Q' := rtQ (m_row (m_row (m_row I 97 (va_up (I 97) 0 (nI 0))) 98 (va_up (I 98) 0 (nI 0))) 99 (va_up (I 99) 0 (-1))) R (rdA (I 96) len 2 (len + 1) 0 (0, 0, -1, -1, DiA (I 104) 2))) (as := [.int (nI 2)]) (st := []) dM_text_77 ml12_245 rfl (Nat.le_of_ble_eq_true rfl) ly_95 rfl rfl (by decide) (by omega) (Nat.le_of_ble_eq_true rfl) rfl (Nat.le_refl _) (Nat.le_refl _) (r_readText (I := (m_row (m_row (m_row I 97 (va_up (I 97) 0 (nI 0))) 98 (va_up (I 98) 0 (nI 0))) 99 (va_up (I 99) 0 (-1)))) (F := (va_up (va_up (I 95) 0 (nI 0)) 10 (nI len))) (D := I 104) (A := I 105) hn hR hl6 hby rfl (by decide)) ?_
  intro v9 I9 J9 R9 ⟨e3, e1, g98, g99, g104, fr⟩
  rw [e3, e1, if_pos hf0]
  have g100 : I9 100 = I 100 := fr 100 (by decide) (by decide) (by decide) (by decide) (by decide)
  have gc : I9 103 = I 103 := fr 103 (by decide) (by decide) (by decide) (by decide) (by decide)
  refine a_mem (show I9 = m_row I9 100 (I9 100) from (m_row_self).symm) ?_
  show AW _ _ _ _ _ _ _ _ [.int (nI 1)] _ _ _ _
  refine a_if_ne (tgt := 85) dM_text_80 (by decide) (fun _ => ?_) (fun c => False.elim (absurd c (by decide)))
  refine a_iload_n 2 dM_text_85 rfl rfl ?_
  refine a_iconst (v := -1) dM_text_86 (by decide) ?_
  refine a_icmp_ne (tgt := 99) dM_text_87 (by decide) (fun c => False.elim (c rfl)) (fun _ => ?_)
  refine a_aload_n 0 dM_text_90 rfl rfl ?_
  refine a_geta (r := 100) dM_text_91 fl12_23 rfl ly_95 (by omega) (rf_95_5 hR) ?_
  refine a_iload_n 1 dM_text_94 rfl rfl ?_
  refine a_ialdN (a := 2) dM_text_95 ly_100 (by omega) (by omega) (by decide) ?_
  rw [show (m_row I9 100 (I9 100)) 100 2 = (nI 1) from (by rw [m_row_eq, g100]; exact h3)]
  refine a_goto (tgt := 100) dM_text_96 (by decide) ?_
  refine a_istore_n (lv' := [(3, .int (nI 1)), (0, .ref 95), (1, .int (nI 2)), (2, .int (-1))]) dM_text_100 rfl (by decide) rfl ?_
  refine a_aload_n 1 dM_text_101 rfl rfl ?_
  refine a_geta (r := 100) dM_text_102 fl12_23 rfl ly_95 (by omega) (rf_95_5 hR) ?_
  refine a_iload_n 2 dM_text_105 rfl rfl ?_
  refine a_dup2 dM_text_106 rfl rfl ?_
  refine a_ialdN (a := 2) dM_text_107 ly_100 (by omega) (by omega) (by decide) ?_
  rw [show (m_row I9 100 (I9 100)) 100 2 = (nI 1) from (by rw [m_row_eq, g100]; exact h3)]
  refine a_iload_n 3 dM_text_108 rfl rfl ?_
  refine a_iconst (v := -1) dM_text_109 (by decide) ?_
  refine a_icmp_ne (tgt := 117) dM_text_110 (by decide) (fun c => False.elim (c rfl)) (fun _ => ?_)
  refine a_iconstN (a := 1) dM_text_113 (by decide) ?_
  refine a_goto (tgt := 118) dM_text_114 (by decide) ?_
  refine a_iaddN (a := 1) (b := 1) dM_text_118 ?_
  refine a_iastN (a := 2) dM_text_119 ly_100 (by omega) (by omega) (by decide) ?_
  rw [show m_up (m_row I9 100 (I9 100)) 100 2 (nI (1 + 1)) = (m_row I9 100 (va_up (I9 100) 2 (nI (1 + 1)))) from (by rw [m_up_r])]
  refine a_iload_n 2 dM_text_120 rfl rfl ?_
  refine a_if_ne (tgt := 138) dM_text_121 (by decide) (fun _ => ?_) (fun c => False.elim (absurd c (by decide)))
  refine a_iload_n 2 dM_text_138 rfl rfl ?_
  refine a_iconstN (a := 1) dM_text_139 (by decide) ?_
  refine a_icmp_neN (tgt := 157) dM_text_140 (by decide) (by omega) (by omega) (fun _ => ?_) (fun c => False.elim (by omega))
  refine a_aload_n 1 dM_text_157 rfl rfl ?_
  refine a_aload_n 1 dM_text_158 rfl rfl ?_
  refine a_geta (r := 103) dM_text_159 fl12_32 rfl ly_95 (by omega) (rf_95_8 hR) ?_
  refine a_bipushN (a := 17) dM_text_162 (by decide) ?_
  refine a_iload_n 0 dM_text_164 rfl rfl ?_
  refine a_callV (Q' := m_res none (m_row (m_row I9 100 (va_up (I9 100) 2 (nI (1 + 1)))) 103 (stF ((m_row I9 100 (va_up (I9 100) 2 (nI (1 + 1)))) 104) ((m_row I9 100 (va_up (I9 100) 2 (nI (1 + 1)))) 103) (17 * 1) 17)) J9 R) (as := [.ref 103, .int (nI 17), .int (nI 1)]) (st := []) dM_text_165 ml12_248 rfl (Nat.le_of_ble_eq_true rfl) ly_95 rfl rfl (by decide) (by omega) (Nat.le_of_ble_eq_true rfl) rfl (Nat.le_refl _) (Nat.le_refl _) (c_store2 (S := S) (d := d + 8) (n := n) (I := (m_row I9 100 (va_up (I9 100) 2 (nI (1 + 1))))) (J := J9) (R := R) (k := 1) hn hR (by decide)) (m_go ?_)
  show AW _ _ _ _ _ _ _ _ [] _ _ _ _
  refine a_iload_n 0 dM_text_168 rfl rfl ?_
  exact a_iret dM_text_169 rfl ⟨rfl, rfl, ((m_row_ne (by decide)).trans ((m_row_ne (by decide)).trans (fr 97 (by decide) (by decide) (by decide) (by decide) (by decide)))), ((m_row_ne (by decide)).trans ((m_row_ne (by decide)).trans (g98.trans (by rw [hf0]; exact vaUU)))), ((m_row_ne (by decide)).trans ((m_row_ne (by decide)).trans (g99.trans (by rw [if_pos hf0]; exact vaUU)))), (m_row_ne (by decide)).trans ((m_row_eq).trans (by rw [g100])), (m_row_eq).trans (by rw [m_row_ne (by decide), m_row_ne (by decide), g104 hf0, gc]), fun a ha => (m_row_ne (by omega)).trans ((m_row_ne (by omega)).trans ((fr a (by omega) (by omega) (by omega) (by omega) (by omega)).trans ((m_row_ne (by omega)).trans ((m_row_ne (by omega)).trans (m_row_ne (by omega))))))⟩
theorem q_M_text2oF {S : Nat × (Nat → Int32)} {d n : Nat} {I : mI} {J : mJ} {R : mR} (hn : 122 ≤ n) (hR : m_fin R) {len : Nat} (hlen : I 97 0 = nI len) (hl6 : len ≤ 600) (hby : byT (I 96) len) {y : Int32} (hy : ¬ y = -1) (h : f_in y 0 (I 100 2 - 1) = 1) (hf0 : ¬ (rdA (I 96) len 2 (len + 1) 0 (0, 0, -1, -1, DiA (I 104) 2)).f = 0)  : AW S (d + 9) YM_text n n (txN I R (-1) (nI (rdA (I 96) len 2 (len + 1) 0 (0, 0, -1, -1, DiA (I 104) 2)).f) (nI (rdA (I 96) len 2 (len + 1) 0 (0, 0, -1, -1, DiA (I 104) 2)).pl) (I 100) 101 (I 101)) 0 [(0, .ref 95), (1, .int (nI 2)), (2, .int y)] [] I J R n := by
  refine a_mem (show I = (m_row (m_row (m_row (m_row I 95 (I 95)) 97 (I 97)) 98 (I 98)) 99 (I 99)) by rw [m_row_self, m_row_self, m_row_self, m_row_self]) ?_
  refine a_aload_n 0 dM_text_0 rfl rfl ?_
  refine a_iconstN (a := 0) dM_text_1 (by decide) ?_
  refine a_puti dM_text_2 fl12_90 rfl ly_95 (by omega) ?_
  rw [show m_up (m_row (m_row (m_row (m_row I 95 (I 95)) 97 (I 97)) 98 (I 98)) 99 (I 99)) 95 0 (nI 0) = (m_row (m_row (m_row (m_row I 95 (va_up (I 95) 0 (nI 0))) 97 (I 97)) 98 (I 98)) 99 (I 99)) from (by rw [m_up_comm (by decide), m_up_comm (by decide), m_up_comm (by decide), m_up_r])]
  refine a_aload_n 0 dM_text_5 rfl rfl ?_
  refine a_aload_n 0 dM_text_6 rfl rfl ?_
  refine a_geta (r := 97) dM_text_7 fl12_13 rfl ly_95 (by omega) (rf_95_2 hR) ?_
  refine a_iconstN (a := 0) dM_text_10 (by decide) ?_
  refine a_ialdN (a := 0) dM_text_11 ly_97 (by omega) (by omega) (by decide) ?_
  rw [show (m_row (m_row (m_row (m_row I 95 (va_up (I 95) 0 (nI 0))) 97 (I 97)) 98 (I 98)) 99 (I 99)) 97 0 = (nI len) from hlen]
  refine a_puti dM_text_12 fl12_113 rfl ly_95 (by omega) ?_
  rw [show m_up (m_row (m_row (m_row (m_row I 95 (va_up (I 95) 0 (nI 0))) 97 (I 97)) 98 (I 98)) 99 (I 99)) 95 10 (nI len) = (m_row (m_row (m_row (m_row I 95 (va_up (va_up (I 95) 0 (nI 0)) 10 (nI len))) 97 (I 97)) 98 (I 98)) 99 (I 99)) from (by rw [m_up_comm (by decide), m_up_comm (by decide), m_up_comm (by decide), m_up_r])]
  refine a_aload_n 0 dM_text_15 rfl rfl ?_
  refine a_geta (r := 97) dM_text_16 fl12_13 rfl ly_95 (by omega) (rf_95_2 hR) ?_
  refine a_iconstN (a := 0) dM_text_19 (by decide) ?_
  refine a_iconstN (a := 0) dM_text_20 (by decide) ?_
  refine a_iastN (a := 0) dM_text_21 ly_97 (by omega) (by omega) (by decide) ?_
  rw [show m_up (m_row (m_row (m_row (m_row I 95 (va_up (va_up (I 95) 0 (nI 0)) 10 (nI len))) 97 (I 97)) 98 (I 98)) 99 (I 99)) 97 0 (nI 0) = (m_row (m_row (m_row (m_row I 95 (va_up (va_up (I 95) 0 (nI 0)) 10 (nI len))) 97 (va_up (I 97) 0 (nI 0))) 98 (I 98)) 99 (I 99)) from (by rw [m_up_comm (by decide), m_up_comm (by decide), m_up_r])]
  refine a_aload_n 0 dM_text_22 rfl rfl ?_
  refine a_geta (r := 98) dM_text_23 fl12_17 rfl ly_95 (by omega) (rf_95_3 hR) ?_
  refine a_iconstN (a := 0) dM_text_26 (by decide) ?_
  refine a_iconstN (a := 0) dM_text_27 (by decide) ?_
  refine a_iastN (a := 0) dM_text_28 ly_98 (by omega) (by omega) (by decide) ?_
  rw [show m_up (m_row (m_row (m_row (m_row I 95 (va_up (va_up (I 95) 0 (nI 0)) 10 (nI len))) 97 (va_up (I 97) 0 (nI 0))) 98 (I 98)) 99 (I 99)) 98 0 (nI 0) = (m_row (m_row (m_row (m_row I 95 (va_up (va_up (I 95) 0 (nI 0)) 10 (nI len))) 97 (va_up (I 97) 0 (nI 0))) 98 (va_up (I 98) 0 (nI 0))) 99 (I 99)) from (by rw [m_up_comm (by decide), m_up_r])]
  refine a_aload_n 0 dM_text_29 rfl rfl ?_
  refine a_geta (r := 99) dM_text_30 fl12_20 rfl ly_95 (by omega) (rf_95_4 hR) ?_
  refine a_iconstN (a := 0) dM_text_33 (by decide) ?_
  refine a_iconst (v := -1) dM_text_34 (by decide) ?_
  refine a_iastN (a := 0) dM_text_35 ly_99 (by omega) (by omega) (by decide) ?_
  rw [show m_up (m_row (m_row (m_row (m_row I 95 (va_up (va_up (I 95) 0 (nI 0)) 10 (nI len))) 97 (va_up (I 97) 0 (nI 0))) 98 (va_up (I 98) 0 (nI 0))) 99 (I 99)) 99 0 (-1) = (m_row (m_row (m_row (m_row I 95 (va_up (va_up (I 95) 0 (nI 0)) 10 (nI len))) 97 (va_up (I 97) 0 (nI 0))) 98 (va_up (I 98) 0 (nI 0))) 99 (va_up (I 99) 0 (-1))) from (by rw [m_up_r])]
  refine a_iload_n 1 dM_text_36 rfl rfl ?_
  refine a_iconstN (a := 0) dM_text_37 (by decide) ?_
  refine a_iconstN (a := 2) dM_text_38 (by decide) ?_
  refine a_callS (Q' := m_res (some (.int 1)) (m_row (m_row (m_row (m_row I 95 (va_up (va_up (I 95) 0 (nI 0)) 10 (nI len))) 97 (va_up (I 97) 0 (nI 0))) 98 (va_up (I 98) 0 (nI 0))) 99 (va_up (I 99) 0 (-1))) J R) (as := [.int (nI 2), .int (nI 0), .int (nI 2)]) (st := []) dM_text_39 ml12_102 rfl (Nat.le_of_ble_eq_true rfl) (Nat.le_of_ble_eq_true rfl) rfl (Nat.le_refl _) (Nat.le_refl _) (c_M_inE (f_in_n (by decide) (by decide) (by decide))) (m_go ?_)
  show AW _ _ _ _ _ _ _ _ [.int 1] _ _ _ _
  refine a_if_eq (tgt := 72) dM_text_42 (by decide) (fun c => False.elim (absurd c (by decide))) (fun _ => ?_)
  refine a_iload_n 2 dM_text_45 rfl rfl ?_
  refine a_iconst (v := -1) dM_text_46 (by decide) ?_
  refine a_icmp_ne (tgt := 63) dM_text_47 (by decide) (fun _ => ?_) (fun c => False.elim (hy c))
  refine a_aload_n 0 dM_text_63 rfl rfl ?_
  refine a_iload_n 1 dM_text_64 rfl rfl ?_
  refine a_iload_n 2 dM_text_65 rfl rfl ?_
  refine a_callV (Q' := m_res (some (.int 1)) (m_row (m_row (m_row (m_row I 95 (va_up (va_up (I 95) 0 (nI 0)) 10 (nI len))) 97 (va_up (I 97) 0 (nI 0))) 98 (va_up (I 98) 0 (nI 0))) 99 (va_up (I 99) 0 (-1))) J R) (as := [.int (nI 2), .int y]) (st := []) dM_text_66 ml12_242 rfl (Nat.le_of_ble_eq_true rfl) ly_95 rfl rfl (by decide) (by omega) (Nat.le_of_ble_eq_true rfl) rfl (Nat.le_refl _) (Nat.le_refl _) (by have q := c_M_is (S := S) (d := d + 7) (n := n) (I := (m_row (m_row (m_row (m_row I 95 (va_up (va_up (I 95) 0 (nI 0)) 10 (nI len))) 97 (va_up (I 97) 0 (nI 0))) 98 (va_up (I 98) 0 (nI 0))) 99 (va_up (I 99) 0 (-1)))) (J := J) (R := R) (s := 2) (k := y) hn hR (by decide); rw [show (m_row (m_row (m_row (m_row I 95 (va_up (va_up (I 95) 0 (nI 0)) 10 (nI len))) 97 (va_up (I 97) 0 (nI 0))) 98 (va_up (I 98) 0 (nI 0))) 99 (va_up (I 99) 0 (-1))) 100 2 = I 100 2 from rfl, h] at q; exact q) (m_go ?_)
  show AW _ _ _ _ _ _ _ _ [.int 1] _ _ _ _
  refine a_if_ne (tgt := 75) dM_text_69 (by decide) (fun _ => ?_) (fun c => False.elim (absurd c (by decide)))
  refine a_aload_n 0 dM_text_75 rfl rfl ?_
  refine a_iload_n 1 dM_text_76 rfl rfl ?_
  refine a_mem (show (m_row (m_row (m_row (m_row I 95 (va_up (va_up (I 95) 0 (nI 0)) 10 (nI len))) 97 (va_up (I 97) 0 (nI 0))) 98 (va_up (I 98) 0 (nI 0))) 99 (va_up (I 99) 0 (-1))) = mRd (m_row (m_row (m_row I 97 (va_up (I 97) 0 (nI 0))) 98 (va_up (I 98) 0 (nI 0))) 99 (va_up (I 99) 0 (-1))) (va_up (va_up (I 95) 0 (nI 0)) 10 (nI len)) (I 104) (I 105) from mR_in) ?_
  refine a_callV (Q' := rtQ (m_row (m_row (m_row I 97 (va_up (I 97) 0 (nI 0))) 98 (va_up (I 98) 0 (nI 0))) 99 (va_up (I 99) 0 (-1))) R (rdA (I 96) len 2 (len + 1) 0 (0, 0, -1, -1, DiA (I 104) 2))) (as := [.int (nI 2)]) (st := []) dM_text_77 ml12_245 rfl (Nat.le_of_ble_eq_true rfl) ly_95 rfl rfl (by decide) (by omega) (Nat.le_of_ble_eq_true rfl) rfl (Nat.le_refl _) (Nat.le_refl _) (r_readText (I := (m_row (m_row (m_row I 97 (va_up (I 97) 0 (nI 0))) 98 (va_up (I 98) 0 (nI 0))) 99 (va_up (I 99) 0 (-1)))) (F := (va_up (va_up (I 95) 0 (nI 0)) 10 (nI len))) (D := I 104) (A := I 105) hn hR hl6 hby rfl (by decide)) ?_
  intro v9 I9 J9 R9 ⟨e3, e1, g98, g99, g104, fr⟩
  rw [e3, e1, if_neg hf0]
  show AW _ _ _ _ _ _ _ _ [.int (nI 0)] _ _ _ _
  refine a_if_ne (tgt := 85) dM_text_80 (by decide) (fun c => False.elim (c rfl)) (fun _ => ?_)
  refine a_iconst (v := -1) dM_text_83 (by decide) ?_
  exact a_iret dM_text_84 rfl ⟨rfl, rfl, fr 97 (by decide) (by decide) (by decide) (by decide) (by decide), g98.trans (by show va_up (va_up (I 98) 0 (nI 0)) 0 _ = _; exact vaUU), g99.trans (by rw [if_neg hf0]; exact vaUU), fr 100 (by decide) (by decide) (by decide) (by decide) (by decide), fr 101 (by decide) (by decide) (by decide) (by decide) (by decide), fun a ha => (fr a (by omega) (by omega) (by omega) (by omega) (by omega)).trans ((m_row_ne (by omega)).trans ((m_row_ne (by omega)).trans (m_row_ne (by omega))))⟩
theorem q_M_text2o0 {S : Nat × (Nat → Int32)} {d n : Nat} {I : mI} {J : mJ} {R : mR} (hn : 122 ≤ n) (hR : m_fin R) {len : Nat} (hlen : I 97 0 = nI len) (hl6 : len ≤ 600) (hby : byT (I 96) len) (h : f_in (nI 0) 0 (I 100 2 - 1) = 1) (hf0 : (rdA (I 96) len 2 (len + 1) 0 (0, 0, -1, -1, DiA (I 104) 2)).f = 0)  : AW S (d + 9) YM_text n n (txN I R (nI 0) (nI 0) (-1) (I 100) 103 (stF (rdA (I 96) len 2 (len + 1) 0 (0, 0, -1, -1, DiA (I 104) 2)).D (I 103) (17 * 0) 17)) 0 [(0, .ref 95), (1, .int (nI 2)), (2, .int (nI 0))] [] I J R n := by
  refine a_mem (show I = (m_row (m_row (m_row (m_row I 95 (I 95)) 97 (I 97)) 98 (I 98)) 99 (I 99)) by rw [m_row_self, m_row_self, m_row_self, m_row_self]) ?_
  refine a_aload_n 0 dM_text_0 rfl rfl ?_
  refine a_iconstN (a := 0) dM_text_1 (by decide) ?_
  refine a_puti dM_text_2 fl12_90 rfl ly_95 (by omega) ?_
  rw [show m_up (m_row (m_row (m_row (m_row I 95 (I 95)) 97 (I 97)) 98 (I 98)) 99 (I 99)) 95 0 (nI 0) = (m_row (m_row (m_row (m_row I 95 (va_up (I 95) 0 (nI 0))) 97 (I 97)) 98 (I 98)) 99 (I 99)) from (by rw [m_up_comm (by decide), m_up_comm (by decide), m_up_comm (by decide), m_up_r])]
  refine a_aload_n 0 dM_text_5 rfl rfl ?_
  refine a_aload_n 0 dM_text_6 rfl rfl ?_
  refine a_geta (r := 97) dM_text_7 fl12_13 rfl ly_95 (by omega) (rf_95_2 hR) ?_
  refine a_iconstN (a := 0) dM_text_10 (by decide) ?_
  refine a_ialdN (a := 0) dM_text_11 ly_97 (by omega) (by omega) (by decide) ?_
  rw [show (m_row (m_row (m_row (m_row I 95 (va_up (I 95) 0 (nI 0))) 97 (I 97)) 98 (I 98)) 99 (I 99)) 97 0 = (nI len) from hlen]
  refine a_puti dM_text_12 fl12_113 rfl ly_95 (by omega) ?_
  rw [show m_up (m_row (m_row (m_row (m_row I 95 (va_up (I 95) 0 (nI 0))) 97 (I 97)) 98 (I 98)) 99 (I 99)) 95 10 (nI len) = (m_row (m_row (m_row (m_row I 95 (va_up (va_up (I 95) 0 (nI 0)) 10 (nI len))) 97 (I 97)) 98 (I 98)) 99 (I 99)) from (by rw [m_up_comm (by decide), m_up_comm (by decide), m_up_comm (by decide), m_up_r])]
  refine a_aload_n 0 dM_text_15 rfl rfl ?_
  refine a_geta (r := 97) dM_text_16 fl12_13 rfl ly_95 (by omega) (rf_95_2 hR) ?_
  refine a_iconstN (a := 0) dM_text_19 (by decide) ?_
  refine a_iconstN (a := 0) dM_text_20 (by decide) ?_
  refine a_iastN (a := 0) dM_text_21 ly_97 (by omega) (by omega) (by decide) ?_
  rw [show m_up (m_row (m_row (m_row (m_row I 95 (va_up (va_up (I 95) 0 (nI 0)) 10 (nI len))) 97 (I 97)) 98 (I 98)) 99 (I 99)) 97 0 (nI 0) = (m_row (m_row (m_row (m_row I 95 (va_up (va_up (I 95) 0 (nI 0)) 10 (nI len))) 97 (va_up (I 97) 0 (nI 0))) 98 (I 98)) 99 (I 99)) from (by rw [m_up_comm (by decide), m_up_comm (by decide), m_up_r])]
  refine a_aload_n 0 dM_text_22 rfl rfl ?_
  refine a_geta (r := 98) dM_text_23 fl12_17 rfl ly_95 (by omega) (rf_95_3 hR) ?_
  refine a_iconstN (a := 0) dM_text_26 (by decide) ?_
  refine a_iconstN (a := 0) dM_text_27 (by decide) ?_
  refine a_iastN (a := 0) dM_text_28 ly_98 (by omega) (by omega) (by decide) ?_
  rw [show m_up (m_row (m_row (m_row (m_row I 95 (va_up (va_up (I 95) 0 (nI 0)) 10 (nI len))) 97 (va_up (I 97) 0 (nI 0))) 98 (I 98)) 99 (I 99)) 98 0 (nI 0) = (m_row (m_row (m_row (m_row I 95 (va_up (va_up (I 95) 0 (nI 0)) 10 (nI len))) 97 (va_up (I 97) 0 (nI 0))) 98 (va_up (I 98) 0 (nI 0))) 99 (I 99)) from (by rw [m_up_comm (by decide), m_up_r])]
  refine a_aload_n 0 dM_text_29 rfl rfl ?_
  refine a_geta (r := 99) dM_text_30 fl12_20 rfl ly_95 (by omega) (rf_95_4 hR) ?_
  refine a_iconstN (a := 0) dM_text_33 (by decide) ?_
  refine a_iconst (v := -1) dM_text_34 (by decide) ?_
  refine a_iastN (a := 0) dM_text_35 ly_99 (by omega) (by omega) (by decide) ?_
  rw [show m_up (m_row (m_row (m_row (m_row I 95 (va_up (va_up (I 95) 0 (nI 0)) 10 (nI len))) 97 (va_up (I 97) 0 (nI 0))) 98 (va_up (I 98) 0 (nI 0))) 99 (I 99)) 99 0 (-1) = (m_row (m_row (m_row (m_row I 95 (va_up (va_up (I 95) 0 (nI 0)) 10 (nI len))) 97 (va_up (I 97) 0 (nI 0))) 98 (va_up (I 98) 0 (nI 0))) 99 (va_up (I 99) 0 (-1))) from (by rw [m_up_r])]
  refine a_iload_n 1 dM_text_36 rfl rfl ?_
  refine a_iconstN (a := 0) dM_text_37 (by decide) ?_
  refine a_iconstN (a := 2) dM_text_38 (by decide) ?_
  refine a_callS (Q' := m_res (some (.int 1)) (m_row (m_row (m_row (m_row I 95 (va_up (va_up (I 95) 0 (nI 0)) 10 (nI len))) 97 (va_up (I 97) 0 (nI 0))) 98 (va_up (I 98) 0 (nI 0))) 99 (va_up (I 99) 0 (-1))) J R) (as := [.int (nI 2), .int (nI 0), .int (nI 2)]) (st := []) dM_text_39 ml12_102 rfl (Nat.le_of_ble_eq_true rfl) (Nat.le_of_ble_eq_true rfl) rfl (Nat.le_refl _) (Nat.le_refl _) (c_M_inE (f_in_n (by decide) (by decide) (by decide))) (m_go ?_)
  show AW _ _ _ _ _ _ _ _ [.int 1] _ _ _ _
  refine a_if_eq (tgt := 72) dM_text_42 (by decide) (fun c => False.elim (absurd c (by decide))) (fun _ => ?_)
  refine a_iload_n 2 dM_text_45 rfl rfl ?_
  refine a_iconst (v := -1) dM_text_46 (by decide) ?_
  refine a_icmp_ne (tgt := 63) dM_text_47 (by decide) (fun _ => ?_) (fun c => False.elim (absurd c (by decide)))
  refine a_aload_n 0 dM_text_63 rfl rfl ?_
  refine a_iload_n 1 dM_text_64 rfl rfl ?_
  refine a_iload_n 2 dM_text_65 rfl rfl ?_
  refine a_callV (Q' := m_res (some (.int 1)) (m_row (m_row (m_row (m_row I 95 (va_up (va_up (I 95) 0 (nI 0)) 10 (nI len))) 97 (va_up (I 97) 0 (nI 0))) 98 (va_up (I 98) 0 (nI 0))) 99 (va_up (I 99) 0 (-1))) J R) (as := [.int (nI 2), .int (nI 0)]) (st := []) dM_text_66 ml12_242 rfl (Nat.le_of_ble_eq_true rfl) ly_95 rfl rfl (by decide) (by omega) (Nat.le_of_ble_eq_true rfl) rfl (Nat.le_refl _) (Nat.le_refl _) (by have q := c_M_is (S := S) (d := d + 7) (n := n) (I := (m_row (m_row (m_row (m_row I 95 (va_up (va_up (I 95) 0 (nI 0)) 10 (nI len))) 97 (va_up (I 97) 0 (nI 0))) 98 (va_up (I 98) 0 (nI 0))) 99 (va_up (I 99) 0 (-1)))) (J := J) (R := R) (s := 2) (k := (nI 0)) hn hR (by decide); rw [show (m_row (m_row (m_row (m_row I 95 (va_up (va_up (I 95) 0 (nI 0)) 10 (nI len))) 97 (va_up (I 97) 0 (nI 0))) 98 (va_up (I 98) 0 (nI 0))) 99 (va_up (I 99) 0 (-1))) 100 2 = I 100 2 from rfl, h] at q; exact q) (m_go ?_)
  show AW _ _ _ _ _ _ _ _ [.int 1] _ _ _ _
  refine a_if_ne (tgt := 75) dM_text_69 (by decide) (fun _ => ?_) (fun c => False.elim (absurd c (by decide)))
  refine a_aload_n 0 dM_text_75 rfl rfl ?_
  refine a_iload_n 1 dM_text_76 rfl rfl ?_
  refine a_mem (show (m_row (m_row (m_row (m_row I 95 (va_up (va_up (I 95) 0 (nI 0)) 10 (nI len))) 97 (va_up (I 97) 0 (nI 0))) 98 (va_up (I 98) 0 (nI 0))) 99 (va_up (I 99) 0 (-1))) = mRd (m_row (m_row (m_row I 97 (va_up (I 97) 0 (nI 0))) 98 (va_up (I 98) 0 (nI 0))) 99 (va_up (I 99) 0 (-1))) (va_up (va_up (I 95) 0 (nI 0)) 10 (nI len)) (I 104) (I 105) from mR_in) ?_
  refine a_callV (Q' := rtQ (m_row (m_row (m_row I 97 (va_up (I 97) 0 (nI 0))) 98 (va_up (I 98) 0 (nI 0))) 99 (va_up (I 99) 0 (-1))) R (rdA (I 96) len 2 (len + 1) 0 (0, 0, -1, -1, DiA (I 104) 2))) (as := [.int (nI 2)]) (st := []) dM_text_77 ml12_245 rfl (Nat.le_of_ble_eq_true rfl) ly_95 rfl rfl (by decide) (by omega) (Nat.le_of_ble_eq_true rfl) rfl (Nat.le_refl _) (Nat.le_refl _) (r_readText (I := (m_row (m_row (m_row I 97 (va_up (I 97) 0 (nI 0))) 98 (va_up (I 98) 0 (nI 0))) 99 (va_up (I 99) 0 (-1)))) (F := (va_up (va_up (I 95) 0 (nI 0)) 10 (nI len))) (D := I 104) (A := I 105) hn hR hl6 hby rfl (by decide)) ?_
  intro v9 I9 J9 R9 ⟨e3, e1, g98, g99, g104, fr⟩
  rw [e3, e1, if_pos hf0]
  have g100 : I9 100 = I 100 := fr 100 (by decide) (by decide) (by decide) (by decide) (by decide)
  have gc : I9 103 = I 103 := fr 103 (by decide) (by decide) (by decide) (by decide) (by decide)
  refine a_mem (show I9 = m_row I9 100 (I9 100) from (m_row_self).symm) ?_
  show AW _ _ _ _ _ _ _ _ [.int (nI 1)] _ _ _ _
  refine a_if_ne (tgt := 85) dM_text_80 (by decide) (fun _ => ?_) (fun c => False.elim (absurd c (by decide)))
  refine a_iload_n 2 dM_text_85 rfl rfl ?_
  refine a_iconst (v := -1) dM_text_86 (by decide) ?_
  refine a_icmp_ne (tgt := 99) dM_text_87 (by decide) (fun _ => ?_) (fun c => False.elim (absurd c (by decide)))
  refine a_iload_n 2 dM_text_99 rfl rfl ?_
  refine a_istore_n (lv' := [(3, .int (nI 0)), (0, .ref 95), (1, .int (nI 2)), (2, .int (nI 0))]) dM_text_100 rfl (by decide) rfl ?_
  refine a_aload_n 1 dM_text_101 rfl rfl ?_
  refine a_geta (r := 100) dM_text_102 fl12_23 rfl ly_95 (by omega) (rf_95_5 hR) ?_
  refine a_iload_n 2 dM_text_105 rfl rfl ?_
  refine a_dup2 dM_text_106 rfl rfl ?_
  refine a_ialdN (a := 2) dM_text_107 ly_100 (by omega) (by omega) (by decide) ?_
  rw [show (m_row I9 100 (I9 100)) 100 2 = I9 100 2 from rfl]
  refine a_iload_n 3 dM_text_108 rfl rfl ?_
  refine a_iconst (v := -1) dM_text_109 (by decide) ?_
  refine a_icmp_ne (tgt := 117) dM_text_110 (by decide) (fun _ => ?_) (fun c => False.elim (absurd c (by decide)))
  refine a_iconstN (a := 0) dM_text_117 (by decide) ?_
  refine a_iadd dM_text_118 ?_
  refine a_iastN (a := 2) dM_text_119 ly_100 (by omega) (by omega) (by decide) ?_
  rw [show m_up (m_row I9 100 (I9 100)) 100 2 ((I9 100 2) + (nI 0)) = (m_row I9 100 (va_up (I9 100) 2 ((I9 100 2) + (nI 0)))) from (by rw [m_up_r])]
  refine a_iload_n 2 dM_text_120 rfl rfl ?_
  refine a_if_ne (tgt := 138) dM_text_121 (by decide) (fun _ => ?_) (fun c => False.elim (absurd c (by decide)))
  refine a_iload_n 2 dM_text_138 rfl rfl ?_
  refine a_iconstN (a := 1) dM_text_139 (by decide) ?_
  refine a_icmp_neN (tgt := 157) dM_text_140 (by decide) (by omega) (by omega) (fun _ => ?_) (fun c => False.elim (by omega))
  refine a_aload_n 1 dM_text_157 rfl rfl ?_
  refine a_aload_n 1 dM_text_158 rfl rfl ?_
  refine a_geta (r := 103) dM_text_159 fl12_32 rfl ly_95 (by omega) (rf_95_8 hR) ?_
  refine a_bipushN (a := 17) dM_text_162 (by decide) ?_
  refine a_iload_n 0 dM_text_164 rfl rfl ?_
  refine a_callV (Q' := m_res none (m_row (m_row I9 100 (va_up (I9 100) 2 ((I9 100 2) + (nI 0)))) 103 (stF ((m_row I9 100 (va_up (I9 100) 2 ((I9 100 2) + (nI 0)))) 104) ((m_row I9 100 (va_up (I9 100) 2 ((I9 100 2) + (nI 0)))) 103) (17 * 0) 17)) J9 R) (as := [.ref 103, .int (nI 17), .int (nI 0)]) (st := []) dM_text_165 ml12_248 rfl (Nat.le_of_ble_eq_true rfl) ly_95 rfl rfl (by decide) (by omega) (Nat.le_of_ble_eq_true rfl) rfl (Nat.le_refl _) (Nat.le_refl _) (c_store2 (S := S) (d := d + 8) (n := n) (I := (m_row I9 100 (va_up (I9 100) 2 ((I9 100 2) + (nI 0))))) (J := J9) (R := R) (k := 0) hn hR (by decide)) (m_go ?_)
  show AW _ _ _ _ _ _ _ _ [] _ _ _ _
  refine a_iload_n 0 dM_text_168 rfl rfl ?_
  exact a_iret dM_text_169 rfl ⟨rfl, rfl, ((m_row_ne (by decide)).trans ((m_row_ne (by decide)).trans (fr 97 (by decide) (by decide) (by decide) (by decide) (by decide)))), ((m_row_ne (by decide)).trans ((m_row_ne (by decide)).trans (g98.trans (by rw [hf0]; exact vaUU)))), ((m_row_ne (by decide)).trans ((m_row_ne (by decide)).trans (g99.trans (by rw [if_pos hf0]; exact vaUU)))), (m_row_ne (by decide)).trans ((m_row_eq).trans (by rw [g100]; exact (va_ui2 (Int32.add_zero _).symm))), (m_row_eq).trans (by rw [m_row_ne (by decide), m_row_ne (by decide), g104 hf0, gc]), fun a ha => (m_row_ne (by omega)).trans ((m_row_ne (by omega)).trans ((fr a (by omega) (by omega) (by omega) (by omega) (by omega)).trans ((m_row_ne (by omega)).trans ((m_row_ne (by omega)).trans (m_row_ne (by omega))))))⟩
theorem q_M_text2o1 {S : Nat × (Nat → Int32)} {d n : Nat} {I : mI} {J : mJ} {R : mR} (hn : 122 ≤ n) (hR : m_fin R) {len : Nat} (hlen : I 97 0 = nI len) (hl6 : len ≤ 600) (hby : byT (I 96) len) (h : f_in (nI 1) 0 (I 100 2 - 1) = 1) (hf0 : (rdA (I 96) len 2 (len + 1) 0 (0, 0, -1, -1, DiA (I 104) 2)).f = 0)  : AW S (d + 9) YM_text n n (txN I R (nI 1) (nI 0) (-1) (I 100) 103 (stF (rdA (I 96) len 2 (len + 1) 0 (0, 0, -1, -1, DiA (I 104) 2)).D (I 103) (17 * 1) 17)) 0 [(0, .ref 95), (1, .int (nI 2)), (2, .int (nI 1))] [] I J R n := by
  refine a_mem (show I = (m_row (m_row (m_row (m_row I 95 (I 95)) 97 (I 97)) 98 (I 98)) 99 (I 99)) by rw [m_row_self, m_row_self, m_row_self, m_row_self]) ?_
  refine a_aload_n 0 dM_text_0 rfl rfl ?_
  refine a_iconstN (a := 0) dM_text_1 (by decide) ?_
  refine a_puti dM_text_2 fl12_90 rfl ly_95 (by omega) ?_
  rw [show m_up (m_row (m_row (m_row (m_row I 95 (I 95)) 97 (I 97)) 98 (I 98)) 99 (I 99)) 95 0 (nI 0) = (m_row (m_row (m_row (m_row I 95 (va_up (I 95) 0 (nI 0))) 97 (I 97)) 98 (I 98)) 99 (I 99)) from (by rw [m_up_comm (by decide), m_up_comm (by decide), m_up_comm (by decide), m_up_r])]
  refine a_aload_n 0 dM_text_5 rfl rfl ?_
  refine a_aload_n 0 dM_text_6 rfl rfl ?_
  refine a_geta (r := 97) dM_text_7 fl12_13 rfl ly_95 (by omega) (rf_95_2 hR) ?_
  refine a_iconstN (a := 0) dM_text_10 (by decide) ?_
  refine a_ialdN (a := 0) dM_text_11 ly_97 (by omega) (by omega) (by decide) ?_
  rw [show (m_row (m_row (m_row (m_row I 95 (va_up (I 95) 0 (nI 0))) 97 (I 97)) 98 (I 98)) 99 (I 99)) 97 0 = (nI len) from hlen]
  refine a_puti dM_text_12 fl12_113 rfl ly_95 (by omega) ?_
  rw [show m_up (m_row (m_row (m_row (m_row I 95 (va_up (I 95) 0 (nI 0))) 97 (I 97)) 98 (I 98)) 99 (I 99)) 95 10 (nI len) = (m_row (m_row (m_row (m_row I 95 (va_up (va_up (I 95) 0 (nI 0)) 10 (nI len))) 97 (I 97)) 98 (I 98)) 99 (I 99)) from (by rw [m_up_comm (by decide), m_up_comm (by decide), m_up_comm (by decide), m_up_r])]
  refine a_aload_n 0 dM_text_15 rfl rfl ?_
  refine a_geta (r := 97) dM_text_16 fl12_13 rfl ly_95 (by omega) (rf_95_2 hR) ?_
  refine a_iconstN (a := 0) dM_text_19 (by decide) ?_
  refine a_iconstN (a := 0) dM_text_20 (by decide) ?_
  refine a_iastN (a := 0) dM_text_21 ly_97 (by omega) (by omega) (by decide) ?_
  rw [show m_up (m_row (m_row (m_row (m_row I 95 (va_up (va_up (I 95) 0 (nI 0)) 10 (nI len))) 97 (I 97)) 98 (I 98)) 99 (I 99)) 97 0 (nI 0) = (m_row (m_row (m_row (m_row I 95 (va_up (va_up (I 95) 0 (nI 0)) 10 (nI len))) 97 (va_up (I 97) 0 (nI 0))) 98 (I 98)) 99 (I 99)) from (by rw [m_up_comm (by decide), m_up_comm (by decide), m_up_r])]
  refine a_aload_n 0 dM_text_22 rfl rfl ?_
  refine a_geta (r := 98) dM_text_23 fl12_17 rfl ly_95 (by omega) (rf_95_3 hR) ?_
  refine a_iconstN (a := 0) dM_text_26 (by decide) ?_
  refine a_iconstN (a := 0) dM_text_27 (by decide) ?_
  refine a_iastN (a := 0) dM_text_28 ly_98 (by omega) (by omega) (by decide) ?_
  rw [show m_up (m_row (m_row (m_row (m_row I 95 (va_up (va_up (I 95) 0 (nI 0)) 10 (nI len))) 97 (va_up (I 97) 0 (nI 0))) 98 (I 98)) 99 (I 99)) 98 0 (nI 0) = (m_row (m_row (m_row (m_row I 95 (va_up (va_up (I 95) 0 (nI 0)) 10 (nI len))) 97 (va_up (I 97) 0 (nI 0))) 98 (va_up (I 98) 0 (nI 0))) 99 (I 99)) from (by rw [m_up_comm (by decide), m_up_r])]
  refine a_aload_n 0 dM_text_29 rfl rfl ?_
  refine a_geta (r := 99) dM_text_30 fl12_20 rfl ly_95 (by omega) (rf_95_4 hR) ?_
  refine a_iconstN (a := 0) dM_text_33 (by decide) ?_
  refine a_iconst (v := -1) dM_text_34 (by decide) ?_
  refine a_iastN (a := 0) dM_text_35 ly_99 (by omega) (by omega) (by decide) ?_
  rw [show m_up (m_row (m_row (m_row (m_row I 95 (va_up (va_up (I 95) 0 (nI 0)) 10 (nI len))) 97 (va_up (I 97) 0 (nI 0))) 98 (va_up (I 98) 0 (nI 0))) 99 (I 99)) 99 0 (-1) = (m_row (m_row (m_row (m_row I 95 (va_up (va_up (I 95) 0 (nI 0)) 10 (nI len))) 97 (va_up (I 97) 0 (nI 0))) 98 (va_up (I 98) 0 (nI 0))) 99 (va_up (I 99) 0 (-1))) from (by rw [m_up_r])]
  refine a_iload_n 1 dM_text_36 rfl rfl ?_
  refine a_iconstN (a := 0) dM_text_37 (by decide) ?_
  refine a_iconstN (a := 2) dM_text_38 (by decide) ?_
  refine a_callS (Q' := m_res (some (.int 1)) (m_row (m_row (m_row (m_row I 95 (va_up (va_up (I 95) 0 (nI 0)) 10 (nI len))) 97 (va_up (I 97) 0 (nI 0))) 98 (va_up (I 98) 0 (nI 0))) 99 (va_up (I 99) 0 (-1))) J R) (as := [.int (nI 2), .int (nI 0), .int (nI 2)]) (st := []) dM_text_39 ml12_102 rfl (Nat.le_of_ble_eq_true rfl) (Nat.le_of_ble_eq_true rfl) rfl (Nat.le_refl _) (Nat.le_refl _) (c_M_inE (f_in_n (by decide) (by decide) (by decide))) (m_go ?_)
  show AW _ _ _ _ _ _ _ _ [.int 1] _ _ _ _
  refine a_if_eq (tgt := 72) dM_text_42 (by decide) (fun c => False.elim (absurd c (by decide))) (fun _ => ?_)
  refine a_iload_n 2 dM_text_45 rfl rfl ?_
  refine a_iconst (v := -1) dM_text_46 (by decide) ?_
  refine a_icmp_ne (tgt := 63) dM_text_47 (by decide) (fun _ => ?_) (fun c => False.elim (absurd c (by decide)))
  refine a_aload_n 0 dM_text_63 rfl rfl ?_
  refine a_iload_n 1 dM_text_64 rfl rfl ?_
  refine a_iload_n 2 dM_text_65 rfl rfl ?_
  refine a_callV (Q' := m_res (some (.int 1)) (m_row (m_row (m_row (m_row I 95 (va_up (va_up (I 95) 0 (nI 0)) 10 (nI len))) 97 (va_up (I 97) 0 (nI 0))) 98 (va_up (I 98) 0 (nI 0))) 99 (va_up (I 99) 0 (-1))) J R) (as := [.int (nI 2), .int (nI 1)]) (st := []) dM_text_66 ml12_242 rfl (Nat.le_of_ble_eq_true rfl) ly_95 rfl rfl (by decide) (by omega) (Nat.le_of_ble_eq_true rfl) rfl (Nat.le_refl _) (Nat.le_refl _) (by have q := c_M_is (S := S) (d := d + 7) (n := n) (I := (m_row (m_row (m_row (m_row I 95 (va_up (va_up (I 95) 0 (nI 0)) 10 (nI len))) 97 (va_up (I 97) 0 (nI 0))) 98 (va_up (I 98) 0 (nI 0))) 99 (va_up (I 99) 0 (-1)))) (J := J) (R := R) (s := 2) (k := (nI 1)) hn hR (by decide); rw [show (m_row (m_row (m_row (m_row I 95 (va_up (va_up (I 95) 0 (nI 0)) 10 (nI len))) 97 (va_up (I 97) 0 (nI 0))) 98 (va_up (I 98) 0 (nI 0))) 99 (va_up (I 99) 0 (-1))) 100 2 = I 100 2 from rfl, h] at q; exact q) (m_go ?_)
  show AW _ _ _ _ _ _ _ _ [.int 1] _ _ _ _
  refine a_if_ne (tgt := 75) dM_text_69 (by decide) (fun _ => ?_) (fun c => False.elim (absurd c (by decide)))
  refine a_aload_n 0 dM_text_75 rfl rfl ?_
  refine a_iload_n 1 dM_text_76 rfl rfl ?_
  refine a_mem (show (m_row (m_row (m_row (m_row I 95 (va_up (va_up (I 95) 0 (nI 0)) 10 (nI len))) 97 (va_up (I 97) 0 (nI 0))) 98 (va_up (I 98) 0 (nI 0))) 99 (va_up (I 99) 0 (-1))) = mRd (m_row (m_row (m_row I 97 (va_up (I 97) 0 (nI 0))) 98 (va_up (I 98) 0 (nI 0))) 99 (va_up (I 99) 0 (-1))) (va_up (va_up (I 95) 0 (nI 0)) 10 (nI len)) (I 104) (I 105) from mR_in) ?_
  refine a_callV (Q' := rtQ (m_row (m_row (m_row I 97 (va_up (I 97) 0 (nI 0))) 98 (va_up (I 98) 0 (nI 0))) 99 (va_up (I 99) 0 (-1))) R (rdA (I 96) len 2 (len + 1) 0 (0, 0, -1, -1, DiA (I 104) 2))) (as := [.int (nI 2)]) (st := []) dM_text_77 ml12_245 rfl (Nat.le_of_ble_eq_true rfl) ly_95 rfl rfl (by decide) (by omega) (Nat.le_of_ble_eq_true rfl) rfl (Nat.le_refl _) (Nat.le_refl _) (r_readText (I := (m_row (m_row (m_row I 97 (va_up (I 97) 0 (nI 0))) 98 (va_up (I 98) 0 (nI 0))) 99 (va_up (I 99) 0 (-1)))) (F := (va_up (va_up (I 95) 0 (nI 0)) 10 (nI len))) (D := I 104) (A := I 105) hn hR hl6 hby rfl (by decide)) ?_
  intro v9 I9 J9 R9 ⟨e3, e1, g98, g99, g104, fr⟩
  rw [e3, e1, if_pos hf0]
  have g100 : I9 100 = I 100 := fr 100 (by decide) (by decide) (by decide) (by decide) (by decide)
  have gc : I9 103 = I 103 := fr 103 (by decide) (by decide) (by decide) (by decide) (by decide)
  refine a_mem (show I9 = m_row I9 100 (I9 100) from (m_row_self).symm) ?_
  show AW _ _ _ _ _ _ _ _ [.int (nI 1)] _ _ _ _
  refine a_if_ne (tgt := 85) dM_text_80 (by decide) (fun _ => ?_) (fun c => False.elim (absurd c (by decide)))
  refine a_iload_n 2 dM_text_85 rfl rfl ?_
  refine a_iconst (v := -1) dM_text_86 (by decide) ?_
  refine a_icmp_ne (tgt := 99) dM_text_87 (by decide) (fun _ => ?_) (fun c => False.elim (absurd c (by decide)))
  refine a_iload_n 2 dM_text_99 rfl rfl ?_
  refine a_istore_n (lv' := [(3, .int (nI 1)), (0, .ref 95), (1, .int (nI 2)), (2, .int (nI 1))]) dM_text_100 rfl (by decide) rfl ?_
  refine a_aload_n 1 dM_text_101 rfl rfl ?_
  refine a_geta (r := 100) dM_text_102 fl12_23 rfl ly_95 (by omega) (rf_95_5 hR) ?_
  refine a_iload_n 2 dM_text_105 rfl rfl ?_
  refine a_dup2 dM_text_106 rfl rfl ?_
  refine a_ialdN (a := 2) dM_text_107 ly_100 (by omega) (by omega) (by decide) ?_
  rw [show (m_row I9 100 (I9 100)) 100 2 = I9 100 2 from rfl]
  refine a_iload_n 3 dM_text_108 rfl rfl ?_
  refine a_iconst (v := -1) dM_text_109 (by decide) ?_
  refine a_icmp_ne (tgt := 117) dM_text_110 (by decide) (fun _ => ?_) (fun c => False.elim (absurd c (by decide)))
  refine a_iconstN (a := 0) dM_text_117 (by decide) ?_
  refine a_iadd dM_text_118 ?_
  refine a_iastN (a := 2) dM_text_119 ly_100 (by omega) (by omega) (by decide) ?_
  rw [show m_up (m_row I9 100 (I9 100)) 100 2 ((I9 100 2) + (nI 0)) = (m_row I9 100 (va_up (I9 100) 2 ((I9 100 2) + (nI 0)))) from (by rw [m_up_r])]
  refine a_iload_n 2 dM_text_120 rfl rfl ?_
  refine a_if_ne (tgt := 138) dM_text_121 (by decide) (fun _ => ?_) (fun c => False.elim (absurd c (by decide)))
  refine a_iload_n 2 dM_text_138 rfl rfl ?_
  refine a_iconstN (a := 1) dM_text_139 (by decide) ?_
  refine a_icmp_neN (tgt := 157) dM_text_140 (by decide) (by omega) (by omega) (fun _ => ?_) (fun c => False.elim (by omega))
  refine a_aload_n 1 dM_text_157 rfl rfl ?_
  refine a_aload_n 1 dM_text_158 rfl rfl ?_
  refine a_geta (r := 103) dM_text_159 fl12_32 rfl ly_95 (by omega) (rf_95_8 hR) ?_
  refine a_bipushN (a := 17) dM_text_162 (by decide) ?_
  refine a_iload_n 0 dM_text_164 rfl rfl ?_
  refine a_callV (Q' := m_res none (m_row (m_row I9 100 (va_up (I9 100) 2 ((I9 100 2) + (nI 0)))) 103 (stF ((m_row I9 100 (va_up (I9 100) 2 ((I9 100 2) + (nI 0)))) 104) ((m_row I9 100 (va_up (I9 100) 2 ((I9 100 2) + (nI 0)))) 103) (17 * 1) 17)) J9 R) (as := [.ref 103, .int (nI 17), .int (nI 1)]) (st := []) dM_text_165 ml12_248 rfl (Nat.le_of_ble_eq_true rfl) ly_95 rfl rfl (by decide) (by omega) (Nat.le_of_ble_eq_true rfl) rfl (Nat.le_refl _) (Nat.le_refl _) (c_store2 (S := S) (d := d + 8) (n := n) (I := (m_row I9 100 (va_up (I9 100) 2 ((I9 100 2) + (nI 0))))) (J := J9) (R := R) (k := 1) hn hR (by decide)) (m_go ?_)
  show AW _ _ _ _ _ _ _ _ [] _ _ _ _
  refine a_iload_n 0 dM_text_168 rfl rfl ?_
  exact a_iret dM_text_169 rfl ⟨rfl, rfl, ((m_row_ne (by decide)).trans ((m_row_ne (by decide)).trans (fr 97 (by decide) (by decide) (by decide) (by decide) (by decide)))), ((m_row_ne (by decide)).trans ((m_row_ne (by decide)).trans (g98.trans (by rw [hf0]; exact vaUU)))), ((m_row_ne (by decide)).trans ((m_row_ne (by decide)).trans (g99.trans (by rw [if_pos hf0]; exact vaUU)))), (m_row_ne (by decide)).trans ((m_row_eq).trans (by rw [g100]; exact (va_ui2 (Int32.add_zero _).symm))), (m_row_eq).trans (by rw [m_row_ne (by decide), m_row_ne (by decide), g104 hf0, gc]), fun a ha => (m_row_ne (by omega)).trans ((m_row_ne (by omega)).trans ((fr a (by omega) (by omega) (by omega) (by omega) (by omega)).trans ((m_row_ne (by omega)).trans ((m_row_ne (by omega)).trans (m_row_ne (by omega))))))⟩
