theorem cp_at {I : mI} {p o i j : Nat} {L : List (Nat × Nat × Nat)} (h : cpH L i j = true) : cpB I p o L (o + i) j = I (p + i) j := by
  show (if o ≤ o + i ∧ cpH L (o + i - o) j = true then I (p + (o + i - o)) j else I (o + i) j) = _
  rw [Nat.add_sub_cancel_left, if_pos ⟨by omega, h⟩]
theorem cp_at0 {I : mI} {p o j : Nat} {L : List (Nat × Nat × Nat)} (h : cpH L 0 j = true) : cpB I p o L o j = I p j := cp_at (i := 0) h
theorem cp_off {I : mI} {p o w a : Nat} {L : List (Nat × Nat × Nat)} (hL : cpW L w) (h : a < o ∨ o + w ≤ a) : cpB I p o L a = I a := by
  funext j
  show (if o ≤ a ∧ cpH L (a - o) j = true then I (p + (a - o)) j else I a j) = _
  rw [if_neg]
  intro q
  rcases h with h | h
  · omega
  · rw [cpH_w hL (show w ≤ a - o by omega)] at q; exact Bool.false_ne_true q.2
theorem OD_cp {I : mI} {o : Nat} {D : Nat → Int32} {nl nw : Nat} (H : OD I 41 D nl nw) : OD (cpB I 41 o cplOffice) o D nl nw := by
  have h10 := H.l10
  refine OD.mk H.l10 H.w8 ?_ ?_ H.d1 ?_ H.d2 ?_ ?_ ?_ ?_ ?_ ?_ ?_ ?_
  · rw [cp_at0 (by decide)]; exact H.h0
  · rw [cp_at0 (by decide)]; exact H.a1
  · rw [cp_at0 (by decide)]; exact H.a2
  · intro h hh; rw [cp_at ((by decide : ∀ j, j < 6 → cpH cplOffice 1 j = true) h hh)]; exact H.mo h hh
  · intro h hh; rw [cp_at ((by decide : ∀ j, j < 10 → cpH cplOffice 2 j = true) h (by omega))]; exact H.ho h hh
  · intro h hh; rw [cp_at ((by decide : ∀ j, j < 10 → cpH cplOffice 3 j = true) h (by omega))]; exact H.ki h hh
  · intro h hh; rw [cp_at ((by decide : ∀ j, j < 10 → cpH cplOffice 4 j = true) h (by omega))]; exact H.fo h hh
  · intro h hh; rw [cp_at ((by decide : ∀ j, j < 10 → cpH cplOffice 5 j = true) h (by omega))]; exact H.pa h hh
  · intro h hh; rw [cp_at ((by decide : ∀ j, j < 10 → cpH cplOffice 6 j = true) h hh)]; exact H.mi h hh
  · intro h hh; rw [cp_at ((by decide : ∀ j, j < 10 → cpH cplOffice 7 j = true) h hh)]; exact H.sh h hh
  · intro h hh; rw [cp_at ((by decide : ∀ j, j < 16 → cpH cplOffice 8 j = true) h hh)]; exact H.ti h hh
theorem WD_cp {I : mI} {o : Nat} {D : Nat → Int32} {c : Nat} (H : WD I 50 D c) : WD (cpB I 50 o cplWeek) o D c := by
  have h10 := H.c40
  refine WD.mk H.c40 ?_ H.d0 ?_ ?_ ?_
  · rw [cp_at0 (by decide)]; exact H.a0
  · intro h hh; rw [cp_at ((by decide : ∀ j, j < 40 → cpH cplWeek 1 j = true) h (by omega))]; exact H.r1 h hh
  · intro h hh; rw [cp_at ((by decide : ∀ j, j < 40 → cpH cplWeek 2 j = true) h (by omega))]; exact H.r2 h hh
  · intro h hh; rw [cp_at ((by decide : ∀ j, j < 40 → cpH cplWeek 3 j = true) h (by omega))]; exact H.r3 h hh
theorem LD_cp {I : mI} {o : Nat} {D : Nat → Int32} {c : Nat} (H : LD I 54 D c) : LD (cpB I 54 o cplLog) o D c := by
  have h10 := H.c8
  refine LD.mk H.c8 ?_ H.d0 ?_ ?_
  · rw [cp_at0 (by decide)]; exact H.a0
  · intro h hh; rw [cp_at ((by decide : ∀ j, j < 8 → cpH cplLog 1 j = true) h (by omega))]; exact H.r1 h hh
  · intro h hh; rw [cp_at ((by decide : ∀ j, j < 8 → cpH cplLog 2 j = true) h (by omega))]; exact H.r2 h hh
/-- the told's own fields behind a text; what a text leaves -/
def txR (f : Nat → Int32) (x y : Int32) : Nat → Int32 := va_up (va_up (va_up f 1 (nI 0)) 2 x) 3 y
def txQ (I : mI) (R : mR) (v x y : Int32) (C : Nat → Int32) (lo hi : Nat) (P : mI → Prop) (w : Option Value) (I' : mI) (_ : mJ) (R' : mR) : Prop :=
  w = some (.int v) ∧ I' 1 = txR (I 1) x y ∧ I' 3 = C ∧ (∀ a, (a < 40 ∧ a ≠ 1 ∧ a ≠ 3 ∧ (a < lo ∨ hi < a)) ∨ 59 < a → I' a = I a) ∧ P I' ∧ KF R R'
theorem q_S_textB1 {S : Nat × (Nat → Int32)} {d n : Nat} {I : mI} {J : mJ} {R : mR} (hn : 122 ≤ n) (hR : m_fin R) {len : Nat} (hlen : I 1 1 = nI len) (hl6 : len ≤ 600) {x y : Int32} (h : x < 0) : AW S (d + 9) YS_text n n (txQ I R (-2) (nI 0) (-1) (I 3) 40 0 (fun _ => True)) 0 [(0, .ref 0), (1, .int x), (2, .int y)] [] I J R n := by
  refine a_mem (show I = m_row I 1 (I 1) from (m_row_self).symm) ?_
  refine a_aload_n 0 dS_text_0 rfl rfl ?_
  refine a_geta (r := 1) dS_text_1 fl11_10 rfl ly_0 (by omega) (rf_0_0 hR) ?_
  refine a_geti dS_text_4 fl11_69 rfl ly_1 (by omega) ?_
  rw [show (m_row I 1 (I 1)) 1 1 = (nI len) from hlen]
  refine a_istore_n (lv' := [(3, .int (nI len)), (0, .ref 0), (1, .int x), (2, .int y)]) dS_text_7 rfl (by decide) rfl ?_
  refine a_aload_n 1 dS_text_8 rfl rfl ?_
  refine a_geta (r := 1) dS_text_9 fl11_10 rfl ly_0 (by omega) (rf_0_0 hR) ?_
  refine a_iconstN (a := 0) dS_text_12 (by decide) ?_
  refine a_puti dS_text_13 fl11_69 rfl ly_1 (by omega) ?_
  rw [show m_up (m_row I 1 (I 1)) 1 1 (nI 0) = (m_row I 1 (va_up (I 1) 1 (nI 0))) from (by rw [m_up_r])]
  refine a_aload_n 1 dS_text_16 rfl rfl ?_
  refine a_geta (r := 1) dS_text_17 fl11_10 rfl ly_0 (by omega) (rf_0_0 hR) ?_
  refine a_iconstN (a := 0) dS_text_20 (by decide) ?_
  refine a_puti dS_text_21 fl11_77 rfl ly_1 (by omega) ?_
  rw [show m_up (m_row I 1 (va_up (I 1) 1 (nI 0))) 1 2 (nI 0) = (m_row I 1 (va_up (va_up (I 1) 1 (nI 0)) 2 (nI 0))) from (by rw [m_up_r])]
  refine a_aload_n 1 dS_text_24 rfl rfl ?_
  refine a_geta (r := 1) dS_text_25 fl11_10 rfl ly_0 (by omega) (rf_0_0 hR) ?_
  refine a_iconst (v := -1) dS_text_28 (by decide) ?_
  refine a_puti dS_text_29 fl11_80 rfl ly_1 (by omega) ?_
  rw [show m_up (m_row I 1 (va_up (va_up (I 1) 1 (nI 0)) 2 (nI 0))) 1 3 (-1) = (m_row I 1 (va_up (va_up (va_up (I 1) 1 (nI 0)) 2 (nI 0)) 3 (-1))) from (by rw [m_up_r])]
  refine a_aload_n 1 dS_text_32 rfl rfl ?_
  refine a_geta (r := 1) dS_text_33 fl11_10 rfl ly_0 (by omega) (rf_0_0 hR) ?_
  refine a_iload_n 2 dS_text_36 rfl rfl ?_
  refine a_iload_n 3 dS_text_37 rfl rfl ?_
  refine a_callV (Q' := m_res (some (.int (nI 0))) (m_row I 1 (va_up (va_up (va_up (I 1) 1 (nI 0)) 2 (nI 0)) 3 (-1))) J R) (as := [.int x, .int y]) (st := []) dS_text_38 ml11_83 rfl (Nat.le_of_ble_eq_true rfl) ly_1 rfl rfl (by decide) (by omega) (Nat.le_of_ble_eq_true rfl) rfl (Nat.le_refl _) (Nat.le_refl _) (c_mayB1 hn hR h) (m_go ?_)
  show AW _ _ _ _ _ _ _ _ [.int (nI 0)] _ _ _ _
  refine a_if_ne (tgt := 47) dS_text_41 (by decide) (fun c => False.elim (c rfl)) (fun _ => ?_)
  refine a_bipush (v := -2) dS_text_44 (by decide) ?_
  exact a_iret dS_text_46 rfl ⟨rfl, m_row_eq, rfl, fun a ha => m_row_ne (by omega), trivial, KF.refl hR⟩
theorem q_S_textB2 {S : Nat × (Nat → Int32)} {d n : Nat} {I : mI} {J : mJ} {R : mR} (hn : 122 ≤ n) (hR : m_fin R) {len : Nat} (hlen : I 1 1 = nI len) (hl6 : len ≤ 600) {x y : Int32} (h : ¬ x < 0) (h3 : ¬ x < nI 3) : AW S (d + 9) YS_text n n (txQ I R (-2) (nI 0) (-1) (I 3) 40 0 (fun _ => True)) 0 [(0, .ref 0), (1, .int x), (2, .int y)] [] I J R n := by
  refine a_mem (show I = m_row I 1 (I 1) from (m_row_self).symm) ?_
  refine a_aload_n 0 dS_text_0 rfl rfl ?_
  refine a_geta (r := 1) dS_text_1 fl11_10 rfl ly_0 (by omega) (rf_0_0 hR) ?_
  refine a_geti dS_text_4 fl11_69 rfl ly_1 (by omega) ?_
  rw [show (m_row I 1 (I 1)) 1 1 = (nI len) from hlen]
  refine a_istore_n (lv' := [(3, .int (nI len)), (0, .ref 0), (1, .int x), (2, .int y)]) dS_text_7 rfl (by decide) rfl ?_
  refine a_aload_n 1 dS_text_8 rfl rfl ?_
  refine a_geta (r := 1) dS_text_9 fl11_10 rfl ly_0 (by omega) (rf_0_0 hR) ?_
  refine a_iconstN (a := 0) dS_text_12 (by decide) ?_
  refine a_puti dS_text_13 fl11_69 rfl ly_1 (by omega) ?_
  rw [show m_up (m_row I 1 (I 1)) 1 1 (nI 0) = (m_row I 1 (va_up (I 1) 1 (nI 0))) from (by rw [m_up_r])]
  refine a_aload_n 1 dS_text_16 rfl rfl ?_
  refine a_geta (r := 1) dS_text_17 fl11_10 rfl ly_0 (by omega) (rf_0_0 hR) ?_
  refine a_iconstN (a := 0) dS_text_20 (by decide) ?_
  refine a_puti dS_text_21 fl11_77 rfl ly_1 (by omega) ?_
  rw [show m_up (m_row I 1 (va_up (I 1) 1 (nI 0))) 1 2 (nI 0) = (m_row I 1 (va_up (va_up (I 1) 1 (nI 0)) 2 (nI 0))) from (by rw [m_up_r])]
  refine a_aload_n 1 dS_text_24 rfl rfl ?_
  refine a_geta (r := 1) dS_text_25 fl11_10 rfl ly_0 (by omega) (rf_0_0 hR) ?_
  refine a_iconst (v := -1) dS_text_28 (by decide) ?_
  refine a_puti dS_text_29 fl11_80 rfl ly_1 (by omega) ?_
  rw [show m_up (m_row I 1 (va_up (va_up (I 1) 1 (nI 0)) 2 (nI 0))) 1 3 (-1) = (m_row I 1 (va_up (va_up (va_up (I 1) 1 (nI 0)) 2 (nI 0)) 3 (-1))) from (by rw [m_up_r])]
  refine a_aload_n 1 dS_text_32 rfl rfl ?_
  refine a_geta (r := 1) dS_text_33 fl11_10 rfl ly_0 (by omega) (rf_0_0 hR) ?_
  refine a_iload_n 2 dS_text_36 rfl rfl ?_
  refine a_iload_n 3 dS_text_37 rfl rfl ?_
  refine a_callV (Q' := m_res (some (.int (nI 0))) (m_row I 1 (va_up (va_up (va_up (I 1) 1 (nI 0)) 2 (nI 0)) 3 (-1))) J R) (as := [.int x, .int y]) (st := []) dS_text_38 ml11_83 rfl (Nat.le_of_ble_eq_true rfl) ly_1 rfl rfl (by decide) (by omega) (Nat.le_of_ble_eq_true rfl) rfl (Nat.le_refl _) (Nat.le_refl _) (c_mayB2 hn hR h h3) (m_go ?_)
  show AW _ _ _ _ _ _ _ _ [.int (nI 0)] _ _ _ _
  refine a_if_ne (tgt := 47) dS_text_41 (by decide) (fun c => False.elim (c rfl)) (fun _ => ?_)
  refine a_bipush (v := -2) dS_text_44 (by decide) ?_
  exact a_iret dS_text_46 rfl ⟨rfl, m_row_eq, rfl, fun a ha => m_row_ne (by omega), trivial, KF.refl hR⟩
theorem q_S_text0nX {S : Nat × (Nat → Int32)} {d n : Nat} {I : mI} {J : mJ} {R : mR} (hn : 122 ≤ n) (hR : m_fin R) {len : Nat} (hlen : I 1 1 = nI len) (hl6 : len ≤ 600) (h : ¬ I 3 0 < nI 2) : AW S (d + 9) YS_text n n (txQ I R (-2) (nI 0) (-1) (I 3) 40 0 (fun _ => True)) 0 [(0, .ref 0), (1, .int (nI 0)), (2, .int (-1))] [] I J R n := by
  refine a_mem (show I = m_row I 1 (I 1) from (m_row_self).symm) ?_
  refine a_aload_n 0 dS_text_0 rfl rfl ?_
  refine a_geta (r := 1) dS_text_1 fl11_10 rfl ly_0 (by omega) (rf_0_0 hR) ?_
  refine a_geti dS_text_4 fl11_69 rfl ly_1 (by omega) ?_
  rw [show (m_row I 1 (I 1)) 1 1 = (nI len) from hlen]
  refine a_istore_n (lv' := [(3, .int (nI len)), (0, .ref 0), (1, .int (nI 0)), (2, .int (-1))]) dS_text_7 rfl (by decide) rfl ?_
  refine a_aload_n 1 dS_text_8 rfl rfl ?_
  refine a_geta (r := 1) dS_text_9 fl11_10 rfl ly_0 (by omega) (rf_0_0 hR) ?_
  refine a_iconstN (a := 0) dS_text_12 (by decide) ?_
  refine a_puti dS_text_13 fl11_69 rfl ly_1 (by omega) ?_
  rw [show m_up (m_row I 1 (I 1)) 1 1 (nI 0) = (m_row I 1 (va_up (I 1) 1 (nI 0))) from (by rw [m_up_r])]
  refine a_aload_n 1 dS_text_16 rfl rfl ?_
  refine a_geta (r := 1) dS_text_17 fl11_10 rfl ly_0 (by omega) (rf_0_0 hR) ?_
  refine a_iconstN (a := 0) dS_text_20 (by decide) ?_
  refine a_puti dS_text_21 fl11_77 rfl ly_1 (by omega) ?_
  rw [show m_up (m_row I 1 (va_up (I 1) 1 (nI 0))) 1 2 (nI 0) = (m_row I 1 (va_up (va_up (I 1) 1 (nI 0)) 2 (nI 0))) from (by rw [m_up_r])]
  refine a_aload_n 1 dS_text_24 rfl rfl ?_
  refine a_geta (r := 1) dS_text_25 fl11_10 rfl ly_0 (by omega) (rf_0_0 hR) ?_
  refine a_iconst (v := -1) dS_text_28 (by decide) ?_
  refine a_puti dS_text_29 fl11_80 rfl ly_1 (by omega) ?_
  rw [show m_up (m_row I 1 (va_up (va_up (I 1) 1 (nI 0)) 2 (nI 0))) 1 3 (-1) = (m_row I 1 (va_up (va_up (va_up (I 1) 1 (nI 0)) 2 (nI 0)) 3 (-1))) from (by rw [m_up_r])]
  refine a_aload_n 1 dS_text_32 rfl rfl ?_
  refine a_geta (r := 1) dS_text_33 fl11_10 rfl ly_0 (by omega) (rf_0_0 hR) ?_
  refine a_iload_n 2 dS_text_36 rfl rfl ?_
  refine a_iload_n 3 dS_text_37 rfl rfl ?_
  refine a_callV (Q' := m_res (some (.int (nI 0))) (m_row I 1 (va_up (va_up (va_up (I 1) 1 (nI 0)) 2 (nI 0)) 3 (-1))) J R) (as := [.int (nI 0), .int (-1)]) (st := []) dS_text_38 ml11_83 rfl (Nat.le_of_ble_eq_true rfl) ly_1 rfl rfl (by decide) (by omega) (Nat.le_of_ble_eq_true rfl) rfl (Nat.le_refl _) (Nat.le_refl _) (c_may0n0 hn hR h) (m_go ?_)
  show AW _ _ _ _ _ _ _ _ [.int (nI 0)] _ _ _ _
  refine a_if_ne (tgt := 47) dS_text_41 (by decide) (fun c => False.elim (c rfl)) (fun _ => ?_)
  refine a_bipush (v := -2) dS_text_44 (by decide) ?_
  exact a_iret dS_text_46 rfl ⟨rfl, m_row_eq, rfl, fun a ha => m_row_ne (by omega), trivial, KF.refl hR⟩
theorem q_S_text0oX {S : Nat × (Nat → Int32)} {d n : Nat} {I : mI} {J : mJ} {R : mR} (hn : 122 ≤ n) (hR : m_fin R) {len : Nat} (hlen : I 1 1 = nI len) (hl6 : len ≤ 600) {y : Int32} (hy : ¬ y = -1) (h : f_of y (I 3 0) = 0) : AW S (d + 9) YS_text n n (txQ I R (-2) (nI 0) (-1) (I 3) 40 0 (fun _ => True)) 0 [(0, .ref 0), (1, .int (nI 0)), (2, .int y)] [] I J R n := by
  refine a_mem (show I = m_row I 1 (I 1) from (m_row_self).symm) ?_
  refine a_aload_n 0 dS_text_0 rfl rfl ?_
  refine a_geta (r := 1) dS_text_1 fl11_10 rfl ly_0 (by omega) (rf_0_0 hR) ?_
  refine a_geti dS_text_4 fl11_69 rfl ly_1 (by omega) ?_
  rw [show (m_row I 1 (I 1)) 1 1 = (nI len) from hlen]
  refine a_istore_n (lv' := [(3, .int (nI len)), (0, .ref 0), (1, .int (nI 0)), (2, .int y)]) dS_text_7 rfl (by decide) rfl ?_
  refine a_aload_n 1 dS_text_8 rfl rfl ?_
  refine a_geta (r := 1) dS_text_9 fl11_10 rfl ly_0 (by omega) (rf_0_0 hR) ?_
  refine a_iconstN (a := 0) dS_text_12 (by decide) ?_
  refine a_puti dS_text_13 fl11_69 rfl ly_1 (by omega) ?_
  rw [show m_up (m_row I 1 (I 1)) 1 1 (nI 0) = (m_row I 1 (va_up (I 1) 1 (nI 0))) from (by rw [m_up_r])]
  refine a_aload_n 1 dS_text_16 rfl rfl ?_
  refine a_geta (r := 1) dS_text_17 fl11_10 rfl ly_0 (by omega) (rf_0_0 hR) ?_
  refine a_iconstN (a := 0) dS_text_20 (by decide) ?_
  refine a_puti dS_text_21 fl11_77 rfl ly_1 (by omega) ?_
  rw [show m_up (m_row I 1 (va_up (I 1) 1 (nI 0))) 1 2 (nI 0) = (m_row I 1 (va_up (va_up (I 1) 1 (nI 0)) 2 (nI 0))) from (by rw [m_up_r])]
  refine a_aload_n 1 dS_text_24 rfl rfl ?_
  refine a_geta (r := 1) dS_text_25 fl11_10 rfl ly_0 (by omega) (rf_0_0 hR) ?_
  refine a_iconst (v := -1) dS_text_28 (by decide) ?_
  refine a_puti dS_text_29 fl11_80 rfl ly_1 (by omega) ?_
  rw [show m_up (m_row I 1 (va_up (va_up (I 1) 1 (nI 0)) 2 (nI 0))) 1 3 (-1) = (m_row I 1 (va_up (va_up (va_up (I 1) 1 (nI 0)) 2 (nI 0)) 3 (-1))) from (by rw [m_up_r])]
  refine a_aload_n 1 dS_text_32 rfl rfl ?_
  refine a_geta (r := 1) dS_text_33 fl11_10 rfl ly_0 (by omega) (rf_0_0 hR) ?_
  refine a_iload_n 2 dS_text_36 rfl rfl ?_
  refine a_iload_n 3 dS_text_37 rfl rfl ?_
  refine a_callV (Q' := m_res (some (.int (nI 0))) (m_row I 1 (va_up (va_up (va_up (I 1) 1 (nI 0)) 2 (nI 0)) 3 (-1))) J R) (as := [.int (nI 0), .int y]) (st := []) dS_text_38 ml11_83 rfl (Nat.le_of_ble_eq_true rfl) ly_1 rfl rfl (by decide) (by omega) (Nat.le_of_ble_eq_true rfl) rfl (Nat.le_refl _) (Nat.le_refl _) (by have q := c_may0o (S := S) (d := d + 7) (n := n) (I := (m_row I 1 (va_up (va_up (va_up (I 1) 1 (nI 0)) 2 (nI 0)) 3 (-1)))) (J := J) (R := R) hn hR (y := y) hy; rw [show (m_row I 1 (va_up (va_up (va_up (I 1) 1 (nI 0)) 2 (nI 0)) 3 (-1))) 3 0 = I 3 0 from rfl, h] at q; exact q) (m_go ?_)
  show AW _ _ _ _ _ _ _ _ [.int (nI 0)] _ _ _ _
  refine a_if_ne (tgt := 47) dS_text_41 (by decide) (fun c => False.elim (c rfl)) (fun _ => ?_)
  refine a_bipush (v := -2) dS_text_44 (by decide) ?_
  exact a_iret dS_text_46 rfl ⟨rfl, m_row_eq, rfl, fun a ha => m_row_ne (by omega), trivial, KF.refl hR⟩
theorem q_S_text1nX {S : Nat × (Nat → Int32)} {d n : Nat} {I : mI} {J : mJ} {R : mR} (hn : 122 ≤ n) (hR : m_fin R) {len : Nat} (hlen : I 1 1 = nI len) (hl6 : len ≤ 600) (h : ¬ I 3 1 < nI 2) : AW S (d + 9) YS_text n n (txQ I R (-2) (nI 0) (-1) (I 3) 40 0 (fun _ => True)) 0 [(0, .ref 0), (1, .int (nI 1)), (2, .int (-1))] [] I J R n := by
  refine a_mem (show I = m_row I 1 (I 1) from (m_row_self).symm) ?_
  refine a_aload_n 0 dS_text_0 rfl rfl ?_
  refine a_geta (r := 1) dS_text_1 fl11_10 rfl ly_0 (by omega) (rf_0_0 hR) ?_
  refine a_geti dS_text_4 fl11_69 rfl ly_1 (by omega) ?_
  rw [show (m_row I 1 (I 1)) 1 1 = (nI len) from hlen]
  refine a_istore_n (lv' := [(3, .int (nI len)), (0, .ref 0), (1, .int (nI 1)), (2, .int (-1))]) dS_text_7 rfl (by decide) rfl ?_
  refine a_aload_n 1 dS_text_8 rfl rfl ?_
  refine a_geta (r := 1) dS_text_9 fl11_10 rfl ly_0 (by omega) (rf_0_0 hR) ?_
  refine a_iconstN (a := 0) dS_text_12 (by decide) ?_
  refine a_puti dS_text_13 fl11_69 rfl ly_1 (by omega) ?_
  rw [show m_up (m_row I 1 (I 1)) 1 1 (nI 0) = (m_row I 1 (va_up (I 1) 1 (nI 0))) from (by rw [m_up_r])]
  refine a_aload_n 1 dS_text_16 rfl rfl ?_
  refine a_geta (r := 1) dS_text_17 fl11_10 rfl ly_0 (by omega) (rf_0_0 hR) ?_
  refine a_iconstN (a := 0) dS_text_20 (by decide) ?_
  refine a_puti dS_text_21 fl11_77 rfl ly_1 (by omega) ?_
  rw [show m_up (m_row I 1 (va_up (I 1) 1 (nI 0))) 1 2 (nI 0) = (m_row I 1 (va_up (va_up (I 1) 1 (nI 0)) 2 (nI 0))) from (by rw [m_up_r])]
  refine a_aload_n 1 dS_text_24 rfl rfl ?_
  refine a_geta (r := 1) dS_text_25 fl11_10 rfl ly_0 (by omega) (rf_0_0 hR) ?_
  refine a_iconst (v := -1) dS_text_28 (by decide) ?_
  refine a_puti dS_text_29 fl11_80 rfl ly_1 (by omega) ?_
  rw [show m_up (m_row I 1 (va_up (va_up (I 1) 1 (nI 0)) 2 (nI 0))) 1 3 (-1) = (m_row I 1 (va_up (va_up (va_up (I 1) 1 (nI 0)) 2 (nI 0)) 3 (-1))) from (by rw [m_up_r])]
  refine a_aload_n 1 dS_text_32 rfl rfl ?_
  refine a_geta (r := 1) dS_text_33 fl11_10 rfl ly_0 (by omega) (rf_0_0 hR) ?_
  refine a_iload_n 2 dS_text_36 rfl rfl ?_
  refine a_iload_n 3 dS_text_37 rfl rfl ?_
  refine a_callV (Q' := m_res (some (.int (nI 0))) (m_row I 1 (va_up (va_up (va_up (I 1) 1 (nI 0)) 2 (nI 0)) 3 (-1))) J R) (as := [.int (nI 1), .int (-1)]) (st := []) dS_text_38 ml11_83 rfl (Nat.le_of_ble_eq_true rfl) ly_1 rfl rfl (by decide) (by omega) (Nat.le_of_ble_eq_true rfl) rfl (Nat.le_refl _) (Nat.le_refl _) (c_may1n0 hn hR h) (m_go ?_)
  show AW _ _ _ _ _ _ _ _ [.int (nI 0)] _ _ _ _
  refine a_if_ne (tgt := 47) dS_text_41 (by decide) (fun c => False.elim (c rfl)) (fun _ => ?_)
  refine a_bipush (v := -2) dS_text_44 (by decide) ?_
  exact a_iret dS_text_46 rfl ⟨rfl, m_row_eq, rfl, fun a ha => m_row_ne (by omega), trivial, KF.refl hR⟩
theorem q_S_text1oX {S : Nat × (Nat → Int32)} {d n : Nat} {I : mI} {J : mJ} {R : mR} (hn : 122 ≤ n) (hR : m_fin R) {len : Nat} (hlen : I 1 1 = nI len) (hl6 : len ≤ 600) {y : Int32} (hy : ¬ y = -1) (h : f_of y (I 3 1) = 0) : AW S (d + 9) YS_text n n (txQ I R (-2) (nI 0) (-1) (I 3) 40 0 (fun _ => True)) 0 [(0, .ref 0), (1, .int (nI 1)), (2, .int y)] [] I J R n := by
  refine a_mem (show I = m_row I 1 (I 1) from (m_row_self).symm) ?_
  refine a_aload_n 0 dS_text_0 rfl rfl ?_
  refine a_geta (r := 1) dS_text_1 fl11_10 rfl ly_0 (by omega) (rf_0_0 hR) ?_
  refine a_geti dS_text_4 fl11_69 rfl ly_1 (by omega) ?_
  rw [show (m_row I 1 (I 1)) 1 1 = (nI len) from hlen]
  refine a_istore_n (lv' := [(3, .int (nI len)), (0, .ref 0), (1, .int (nI 1)), (2, .int y)]) dS_text_7 rfl (by decide) rfl ?_
  refine a_aload_n 1 dS_text_8 rfl rfl ?_
  refine a_geta (r := 1) dS_text_9 fl11_10 rfl ly_0 (by omega) (rf_0_0 hR) ?_
  refine a_iconstN (a := 0) dS_text_12 (by decide) ?_
  refine a_puti dS_text_13 fl11_69 rfl ly_1 (by omega) ?_
  rw [show m_up (m_row I 1 (I 1)) 1 1 (nI 0) = (m_row I 1 (va_up (I 1) 1 (nI 0))) from (by rw [m_up_r])]
  refine a_aload_n 1 dS_text_16 rfl rfl ?_
  refine a_geta (r := 1) dS_text_17 fl11_10 rfl ly_0 (by omega) (rf_0_0 hR) ?_
  refine a_iconstN (a := 0) dS_text_20 (by decide) ?_
  refine a_puti dS_text_21 fl11_77 rfl ly_1 (by omega) ?_
  rw [show m_up (m_row I 1 (va_up (I 1) 1 (nI 0))) 1 2 (nI 0) = (m_row I 1 (va_up (va_up (I 1) 1 (nI 0)) 2 (nI 0))) from (by rw [m_up_r])]
  refine a_aload_n 1 dS_text_24 rfl rfl ?_
  refine a_geta (r := 1) dS_text_25 fl11_10 rfl ly_0 (by omega) (rf_0_0 hR) ?_
  refine a_iconst (v := -1) dS_text_28 (by decide) ?_
  refine a_puti dS_text_29 fl11_80 rfl ly_1 (by omega) ?_
  rw [show m_up (m_row I 1 (va_up (va_up (I 1) 1 (nI 0)) 2 (nI 0))) 1 3 (-1) = (m_row I 1 (va_up (va_up (va_up (I 1) 1 (nI 0)) 2 (nI 0)) 3 (-1))) from (by rw [m_up_r])]
  refine a_aload_n 1 dS_text_32 rfl rfl ?_
  refine a_geta (r := 1) dS_text_33 fl11_10 rfl ly_0 (by omega) (rf_0_0 hR) ?_
  refine a_iload_n 2 dS_text_36 rfl rfl ?_
  refine a_iload_n 3 dS_text_37 rfl rfl ?_
  refine a_callV (Q' := m_res (some (.int (nI 0))) (m_row I 1 (va_up (va_up (va_up (I 1) 1 (nI 0)) 2 (nI 0)) 3 (-1))) J R) (as := [.int (nI 1), .int y]) (st := []) dS_text_38 ml11_83 rfl (Nat.le_of_ble_eq_true rfl) ly_1 rfl rfl (by decide) (by omega) (Nat.le_of_ble_eq_true rfl) rfl (Nat.le_refl _) (Nat.le_refl _) (by have q := c_may1o (S := S) (d := d + 7) (n := n) (I := (m_row I 1 (va_up (va_up (va_up (I 1) 1 (nI 0)) 2 (nI 0)) 3 (-1)))) (J := J) (R := R) hn hR (y := y) hy; rw [show (m_row I 1 (va_up (va_up (va_up (I 1) 1 (nI 0)) 2 (nI 0)) 3 (-1))) 3 1 = I 3 1 from rfl, h] at q; exact q) (m_go ?_)
  show AW _ _ _ _ _ _ _ _ [.int (nI 0)] _ _ _ _
  refine a_if_ne (tgt := 47) dS_text_41 (by decide) (fun c => False.elim (c rfl)) (fun _ => ?_)
  refine a_bipush (v := -2) dS_text_44 (by decide) ?_
  exact a_iret dS_text_46 rfl ⟨rfl, m_row_eq, rfl, fun a ha => m_row_ne (by omega), trivial, KF.refl hR⟩
theorem q_S_text2nX {S : Nat × (Nat → Int32)} {d n : Nat} {I : mI} {J : mJ} {R : mR} (hn : 122 ≤ n) (hR : m_fin R) {len : Nat} (hlen : I 1 1 = nI len) (hl6 : len ≤ 600) (h : ¬ I 3 2 < nI 2) : AW S (d + 9) YS_text n n (txQ I R (-2) (nI 0) (-1) (I 3) 40 0 (fun _ => True)) 0 [(0, .ref 0), (1, .int (nI 2)), (2, .int (-1))] [] I J R n := by
  refine a_mem (show I = m_row I 1 (I 1) from (m_row_self).symm) ?_
  refine a_aload_n 0 dS_text_0 rfl rfl ?_
  refine a_geta (r := 1) dS_text_1 fl11_10 rfl ly_0 (by omega) (rf_0_0 hR) ?_
  refine a_geti dS_text_4 fl11_69 rfl ly_1 (by omega) ?_
  rw [show (m_row I 1 (I 1)) 1 1 = (nI len) from hlen]
  refine a_istore_n (lv' := [(3, .int (nI len)), (0, .ref 0), (1, .int (nI 2)), (2, .int (-1))]) dS_text_7 rfl (by decide) rfl ?_
  refine a_aload_n 1 dS_text_8 rfl rfl ?_
  refine a_geta (r := 1) dS_text_9 fl11_10 rfl ly_0 (by omega) (rf_0_0 hR) ?_
  refine a_iconstN (a := 0) dS_text_12 (by decide) ?_
  refine a_puti dS_text_13 fl11_69 rfl ly_1 (by omega) ?_
  rw [show m_up (m_row I 1 (I 1)) 1 1 (nI 0) = (m_row I 1 (va_up (I 1) 1 (nI 0))) from (by rw [m_up_r])]
  refine a_aload_n 1 dS_text_16 rfl rfl ?_
  refine a_geta (r := 1) dS_text_17 fl11_10 rfl ly_0 (by omega) (rf_0_0 hR) ?_
  refine a_iconstN (a := 0) dS_text_20 (by decide) ?_
  refine a_puti dS_text_21 fl11_77 rfl ly_1 (by omega) ?_
  rw [show m_up (m_row I 1 (va_up (I 1) 1 (nI 0))) 1 2 (nI 0) = (m_row I 1 (va_up (va_up (I 1) 1 (nI 0)) 2 (nI 0))) from (by rw [m_up_r])]
  refine a_aload_n 1 dS_text_24 rfl rfl ?_
  refine a_geta (r := 1) dS_text_25 fl11_10 rfl ly_0 (by omega) (rf_0_0 hR) ?_
  refine a_iconst (v := -1) dS_text_28 (by decide) ?_
  refine a_puti dS_text_29 fl11_80 rfl ly_1 (by omega) ?_
  rw [show m_up (m_row I 1 (va_up (va_up (I 1) 1 (nI 0)) 2 (nI 0))) 1 3 (-1) = (m_row I 1 (va_up (va_up (va_up (I 1) 1 (nI 0)) 2 (nI 0)) 3 (-1))) from (by rw [m_up_r])]
  refine a_aload_n 1 dS_text_32 rfl rfl ?_
  refine a_geta (r := 1) dS_text_33 fl11_10 rfl ly_0 (by omega) (rf_0_0 hR) ?_
  refine a_iload_n 2 dS_text_36 rfl rfl ?_
  refine a_iload_n 3 dS_text_37 rfl rfl ?_
  refine a_callV (Q' := m_res (some (.int (nI 0))) (m_row I 1 (va_up (va_up (va_up (I 1) 1 (nI 0)) 2 (nI 0)) 3 (-1))) J R) (as := [.int (nI 2), .int (-1)]) (st := []) dS_text_38 ml11_83 rfl (Nat.le_of_ble_eq_true rfl) ly_1 rfl rfl (by decide) (by omega) (Nat.le_of_ble_eq_true rfl) rfl (Nat.le_refl _) (Nat.le_refl _) (c_may2n0 hn hR h) (m_go ?_)
  show AW _ _ _ _ _ _ _ _ [.int (nI 0)] _ _ _ _
  refine a_if_ne (tgt := 47) dS_text_41 (by decide) (fun c => False.elim (c rfl)) (fun _ => ?_)
  refine a_bipush (v := -2) dS_text_44 (by decide) ?_
  exact a_iret dS_text_46 rfl ⟨rfl, m_row_eq, rfl, fun a ha => m_row_ne (by omega), trivial, KF.refl hR⟩
theorem q_S_text2oX {S : Nat × (Nat → Int32)} {d n : Nat} {I : mI} {J : mJ} {R : mR} (hn : 122 ≤ n) (hR : m_fin R) {len : Nat} (hlen : I 1 1 = nI len) (hl6 : len ≤ 600) {y : Int32} (hy : ¬ y = -1) (h : f_of y (I 3 2) = 0) : AW S (d + 9) YS_text n n (txQ I R (-2) (nI 0) (-1) (I 3) 40 0 (fun _ => True)) 0 [(0, .ref 0), (1, .int (nI 2)), (2, .int y)] [] I J R n := by
  refine a_mem (show I = m_row I 1 (I 1) from (m_row_self).symm) ?_
  refine a_aload_n 0 dS_text_0 rfl rfl ?_
  refine a_geta (r := 1) dS_text_1 fl11_10 rfl ly_0 (by omega) (rf_0_0 hR) ?_
  refine a_geti dS_text_4 fl11_69 rfl ly_1 (by omega) ?_
  rw [show (m_row I 1 (I 1)) 1 1 = (nI len) from hlen]
  refine a_istore_n (lv' := [(3, .int (nI len)), (0, .ref 0), (1, .int (nI 2)), (2, .int y)]) dS_text_7 rfl (by decide) rfl ?_
  refine a_aload_n 1 dS_text_8 rfl rfl ?_
  refine a_geta (r := 1) dS_text_9 fl11_10 rfl ly_0 (by omega) (rf_0_0 hR) ?_
  refine a_iconstN (a := 0) dS_text_12 (by decide) ?_
  refine a_puti dS_text_13 fl11_69 rfl ly_1 (by omega) ?_
  rw [show m_up (m_row I 1 (I 1)) 1 1 (nI 0) = (m_row I 1 (va_up (I 1) 1 (nI 0))) from (by rw [m_up_r])]
  refine a_aload_n 1 dS_text_16 rfl rfl ?_
  refine a_geta (r := 1) dS_text_17 fl11_10 rfl ly_0 (by omega) (rf_0_0 hR) ?_
  refine a_iconstN (a := 0) dS_text_20 (by decide) ?_
  refine a_puti dS_text_21 fl11_77 rfl ly_1 (by omega) ?_
  rw [show m_up (m_row I 1 (va_up (I 1) 1 (nI 0))) 1 2 (nI 0) = (m_row I 1 (va_up (va_up (I 1) 1 (nI 0)) 2 (nI 0))) from (by rw [m_up_r])]
  refine a_aload_n 1 dS_text_24 rfl rfl ?_
  refine a_geta (r := 1) dS_text_25 fl11_10 rfl ly_0 (by omega) (rf_0_0 hR) ?_
  refine a_iconst (v := -1) dS_text_28 (by decide) ?_
  refine a_puti dS_text_29 fl11_80 rfl ly_1 (by omega) ?_
  rw [show m_up (m_row I 1 (va_up (va_up (I 1) 1 (nI 0)) 2 (nI 0))) 1 3 (-1) = (m_row I 1 (va_up (va_up (va_up (I 1) 1 (nI 0)) 2 (nI 0)) 3 (-1))) from (by rw [m_up_r])]
  refine a_aload_n 1 dS_text_32 rfl rfl ?_
  refine a_geta (r := 1) dS_text_33 fl11_10 rfl ly_0 (by omega) (rf_0_0 hR) ?_
  refine a_iload_n 2 dS_text_36 rfl rfl ?_
  refine a_iload_n 3 dS_text_37 rfl rfl ?_
  refine a_callV (Q' := m_res (some (.int (nI 0))) (m_row I 1 (va_up (va_up (va_up (I 1) 1 (nI 0)) 2 (nI 0)) 3 (-1))) J R) (as := [.int (nI 2), .int y]) (st := []) dS_text_38 ml11_83 rfl (Nat.le_of_ble_eq_true rfl) ly_1 rfl rfl (by decide) (by omega) (Nat.le_of_ble_eq_true rfl) rfl (Nat.le_refl _) (Nat.le_refl _) (by have q := c_may2o (S := S) (d := d + 7) (n := n) (I := (m_row I 1 (va_up (va_up (va_up (I 1) 1 (nI 0)) 2 (nI 0)) 3 (-1)))) (J := J) (R := R) hn hR (y := y) hy; rw [show (m_row I 1 (va_up (va_up (va_up (I 1) 1 (nI 0)) 2 (nI 0)) 3 (-1))) 3 2 = I 3 2 from rfl, h] at q; exact q) (m_go ?_)
  show AW _ _ _ _ _ _ _ _ [.int (nI 0)] _ _ _ _
  refine a_if_ne (tgt := 47) dS_text_41 (by decide) (fun c => False.elim (c rfl)) (fun _ => ?_)
  refine a_bipush (v := -2) dS_text_44 (by decide) ?_
  exact a_iret dS_text_46 rfl ⟨rfl, m_row_eq, rfl, fun a ha => m_row_ne (by omega), trivial, KF.refl hR⟩
theorem txr_e {I2 I : mI} {x y : Int32} (h : I2 1 = va_up (va_up (va_up (I 1) 1 (nI 0)) 2 (nI 0)) 3 (-1)) : va_up (va_up (I2 1) 2 x) 3 y = txR (I 1) x y := by
  rw [h]
  funext j
  unfold txR va_up
  by_cases q3 : j = 3
  · simp [q3]
  · by_cases q2 : j = 2
    · simp [q2]
    · simp [q3, q2]
theorem q_S_text0nF {S : Nat × (Nat → Int32)} {d n : Nat} {I : mI} {J : mJ} {R : mR} (hn : 122 ≤ n) (hR : m_fin R) {len : Nat} (hlen : I 1 1 = nI len) (hl6 : len ≤ 600) (h : I 3 0 < nI 2) {Di : Nat → Int32} (hD : ∀ j, j < 121 → Di j = D0 0 j) (h5 : (rdA (I 2) len 0 (len + 1) 0 (0, 0, -1, -1, Di)).f < 5) (hf0 : ¬ (rdA (I 2) len 0 (len + 1) 0 (0, 0, -1, -1, Di)).f = 0) : AW S (d + 9) YS_text n n (txQ I R (-1) (nI (rdA (I 2) len 0 (len + 1) 0 (0, 0, -1, -1, Di)).f) (nI (rdA (I 2) len 0 (len + 1) 0 (0, 0, -1, -1, Di)).pl) (I 3) 40 0 (fun _ => True)) 0 [(0, .ref 0), (1, .int (nI 0)), (2, .int (-1))] [] I J R n := by
  refine a_mem (show I = m_row I 1 (I 1) from (m_row_self).symm) ?_
  refine a_aload_n 0 dS_text_0 rfl rfl ?_
  refine a_geta (r := 1) dS_text_1 fl11_10 rfl ly_0 (by omega) (rf_0_0 hR) ?_
  refine a_geti dS_text_4 fl11_69 rfl ly_1 (by omega) ?_
  rw [show (m_row I 1 (I 1)) 1 1 = (nI len) from hlen]
  refine a_istore_n (lv' := [(3, .int (nI len)), (0, .ref 0), (1, .int (nI 0)), (2, .int (-1))]) dS_text_7 rfl (by decide) rfl ?_
  refine a_aload_n 1 dS_text_8 rfl rfl ?_
  refine a_geta (r := 1) dS_text_9 fl11_10 rfl ly_0 (by omega) (rf_0_0 hR) ?_
  refine a_iconstN (a := 0) dS_text_12 (by decide) ?_
  refine a_puti dS_text_13 fl11_69 rfl ly_1 (by omega) ?_
  rw [show m_up (m_row I 1 (I 1)) 1 1 (nI 0) = (m_row I 1 (va_up (I 1) 1 (nI 0))) from (by rw [m_up_r])]
  refine a_aload_n 1 dS_text_16 rfl rfl ?_
  refine a_geta (r := 1) dS_text_17 fl11_10 rfl ly_0 (by omega) (rf_0_0 hR) ?_
  refine a_iconstN (a := 0) dS_text_20 (by decide) ?_
  refine a_puti dS_text_21 fl11_77 rfl ly_1 (by omega) ?_
  rw [show m_up (m_row I 1 (va_up (I 1) 1 (nI 0))) 1 2 (nI 0) = (m_row I 1 (va_up (va_up (I 1) 1 (nI 0)) 2 (nI 0))) from (by rw [m_up_r])]
  refine a_aload_n 1 dS_text_24 rfl rfl ?_
  refine a_geta (r := 1) dS_text_25 fl11_10 rfl ly_0 (by omega) (rf_0_0 hR) ?_
  refine a_iconst (v := -1) dS_text_28 (by decide) ?_
  refine a_puti dS_text_29 fl11_80 rfl ly_1 (by omega) ?_
  rw [show m_up (m_row I 1 (va_up (va_up (I 1) 1 (nI 0)) 2 (nI 0))) 1 3 (-1) = (m_row I 1 (va_up (va_up (va_up (I 1) 1 (nI 0)) 2 (nI 0)) 3 (-1))) from (by rw [m_up_r])]
  refine a_aload_n 1 dS_text_32 rfl rfl ?_
  refine a_geta (r := 1) dS_text_33 fl11_10 rfl ly_0 (by omega) (rf_0_0 hR) ?_
  refine a_iload_n 2 dS_text_36 rfl rfl ?_
  refine a_iload_n 3 dS_text_37 rfl rfl ?_
  refine a_callV (Q' := m_res (some (.int (nI 1))) (m_row I 1 (va_up (va_up (va_up (I 1) 1 (nI 0)) 2 (nI 0)) 3 (-1))) J R) (as := [.int (nI 0), .int (-1)]) (st := []) dS_text_38 ml11_83 rfl (Nat.le_of_ble_eq_true rfl) ly_1 rfl rfl (by decide) (by omega) (Nat.le_of_ble_eq_true rfl) rfl (Nat.le_refl _) (Nat.le_refl _) (c_may0n1 hn hR h) (m_go ?_)
  show AW _ _ _ _ _ _ _ _ [.int (nI 1)] _ _ _ _
  refine a_if_ne (tgt := 47) dS_text_41 (by decide) (fun _ => ?_) (fun c => False.elim (absurd c (by decide)))
  refine a_aload_n 1 dS_text_47 rfl rfl ?_
  refine a_geta (r := 40) dS_text_48 fl11_23 rfl ly_0 (by omega) (rf_0_2 hR) ?_
  refine a_iload_n 2 dS_text_51 rfl rfl ?_
  refine a_aload_n 1 dS_text_52 rfl rfl ?_
  refine a_geta (r := 1) dS_text_53 fl11_10 rfl ly_0 (by omega) (rf_0_0 hR) ?_
  refine a_geta (r := 2) dS_text_56 fl11_87 rfl ly_1 (by omega) (rf_1_0 hR) ?_
  refine a_iload_n 0 dS_text_59 rfl rfl ?_
  refine a_callV (Q' := rdQ (m_row I 1 (va_up (va_up (va_up (I 1) 1 (nI 0)) 2 (nI 0)) 3 (-1))) J R 0 (rdA (I 2) len 0 (len + 1) 0 (0, 0, -1, -1, Di))) (as := [.int (nI 0), .ref 2, .int (nI len)]) (st := []) dS_text_60 ml11_91 rfl (Nat.le_of_ble_eq_true rfl) ly_40 rfl rfl (by decide) (by omega) (Nat.le_of_ble_eq_true rfl) rfl (Nat.le_refl _) (Nat.le_refl _) (c_read (I := (m_row I 1 (va_up (va_up (va_up (I 1) 1 (nI 0)) 2 (nI 0)) 3 (-1)))) hn hR hl6 (by decide) hD) ?_
  intro v I2 J2 R2 ⟨e0, e1, e2, hf, g3, g4, hd⟩
  rw [e0, e1, e2]
  have hR2 : m_fin (m_up R 40 5 (some 2)) := fin_40 hR
  have i1 : I2 1 = va_up (va_up (va_up (I 1) 1 (nI 0)) 2 (nI 0)) 3 (-1) := hf 1 (by omega)
  have i3 : I2 3 = I 3 := hf 3 (by omega)
  refine a_mem (show I2 = m_row I2 1 (I2 1) from (m_row_self).symm) ?_
  show AW _ _ _ _ _ _ _ _ [] _ _ _ _
  have hz : ¬ nI (rdA (I 2) len 0 (len + 1) 0 (0, 0, -1, -1, Di)).f = 0 := fun q => hf0 (by rw [show (0 : Int32) = nI 0 from rfl, nI_eq (by have := h5; omega) (by decide)] at q; exact q)
  refine a_aload_n 1 dS_text_63 rfl rfl ?_
  refine a_geta (r := 1) dS_text_64 fl11_10 rfl ly_0 (by omega) (rf_0_0 hR2) ?_
  refine a_aload_n 1 dS_text_67 rfl rfl ?_
  refine a_geta (r := 40) dS_text_68 fl11_23 rfl ly_0 (by omega) (rf_0_2 hR2) ?_
  refine a_geti dS_text_71 fl11_95 rfl ly_40 (by omega) ?_
  rw [show (m_row I2 1 (I2 1)) 40 3 = (nI (rdA (I 2) len 0 (len + 1) 0 (0, 0, -1, -1, Di)).f) from g3]
  refine a_puti dS_text_74 fl11_77 rfl ly_1 (by omega) ?_
  rw [show m_up (m_row I2 1 (I2 1)) 1 2 (nI (rdA (I 2) len 0 (len + 1) 0 (0, 0, -1, -1, Di)).f) = (m_row I2 1 (va_up (I2 1) 2 (nI (rdA (I 2) len 0 (len + 1) 0 (0, 0, -1, -1, Di)).f))) from (by rw [m_up_r])]
  refine a_aload_n 1 dS_text_77 rfl rfl ?_
  refine a_geta (r := 1) dS_text_78 fl11_10 rfl ly_0 (by omega) (rf_0_0 hR2) ?_
  refine a_aload_n 1 dS_text_81 rfl rfl ?_
  refine a_geta (r := 40) dS_text_82 fl11_23 rfl ly_0 (by omega) (rf_0_2 hR2) ?_
  refine a_geti dS_text_85 fl11_96 rfl ly_40 (by omega) ?_
  rw [show (m_row I2 1 (va_up (I2 1) 2 (nI (rdA (I 2) len 0 (len + 1) 0 (0, 0, -1, -1, Di)).f))) 40 4 = (nI (rdA (I 2) len 0 (len + 1) 0 (0, 0, -1, -1, Di)).pl) from (g4.trans (if_neg hf0))]
  refine a_puti dS_text_88 fl11_80 rfl ly_1 (by omega) ?_
  rw [show m_up (m_row I2 1 (va_up (I2 1) 2 (nI (rdA (I 2) len 0 (len + 1) 0 (0, 0, -1, -1, Di)).f))) 1 3 (nI (rdA (I 2) len 0 (len + 1) 0 (0, 0, -1, -1, Di)).pl) = (m_row I2 1 (va_up (va_up (I2 1) 2 (nI (rdA (I 2) len 0 (len + 1) 0 (0, 0, -1, -1, Di)).f)) 3 (nI (rdA (I 2) len 0 (len + 1) 0 (0, 0, -1, -1, Di)).pl))) from (by rw [m_up_r])]
  refine a_aload_n 1 dS_text_91 rfl rfl ?_
  refine a_geta (r := 1) dS_text_92 fl11_10 rfl ly_0 (by omega) (rf_0_0 hR2) ?_
  refine a_geti dS_text_95 fl11_77 rfl ly_1 (by omega) ?_
  rw [show (m_row I2 1 (va_up (va_up (I2 1) 2 (nI (rdA (I 2) len 0 (len + 1) 0 (0, 0, -1, -1, Di)).f)) 3 (nI (rdA (I 2) len 0 (len + 1) 0 (0, 0, -1, -1, Di)).pl))) 1 2 = (nI (rdA (I 2) len 0 (len + 1) 0 (0, 0, -1, -1, Di)).f) from rfl]
  refine a_if_eq (tgt := 103) dS_text_98 (by decide) (fun c => False.elim (hz c)) (fun _ => ?_)
  refine a_iconst (v := -1) dS_text_101 (by decide) ?_
  exact a_iret dS_text_102 rfl ⟨rfl, (m_row_eq).trans (txr_e i1), i3, fun a ha => (m_row_ne (by omega)).trans ((hf a (by omega)).trans (m_row_ne (by omega))), trivial, KF.up40 (KF.refl hR)⟩
theorem q_S_text0n0 {S : Nat × (Nat → Int32)} {d n : Nat} {I : mI} {J : mJ} {R : mR} (hn : 122 ≤ n) (hR : m_fin R) {len : Nat} (hlen : I 1 1 = nI len) (hl6 : len ≤ 600) (h3 : I 3 0 = nI 0) {Di : Nat → Int32} (hD : ∀ j, j < 121 → Di j = D0 0 j) (hf0 : (rdA (I 2) len 0 (len + 1) 0 (0, 0, -1, -1, Di)).f = 0) : AW S (d + 9) YS_text n n (txQ I R (nI 0) (nI 0) (-1) (va_up (I 3) 0 (nI 1)) 5 13 (fun X => ∃ nl nw, OD X 5 (rdA (I 2) len 0 (len + 1) 0 (0, 0, -1, -1, Di)).D nl nw)) 0 [(0, .ref 0), (1, .int (nI 0)), (2, .int (-1))] [] I J R n := by
  refine a_mem (show I = m_row I 1 (I 1) from (m_row_self).symm) ?_
  refine a_aload_n 0 dS_text_0 rfl rfl ?_
  refine a_geta (r := 1) dS_text_1 fl11_10 rfl ly_0 (by omega) (rf_0_0 hR) ?_
  refine a_geti dS_text_4 fl11_69 rfl ly_1 (by omega) ?_
  rw [show (m_row I 1 (I 1)) 1 1 = (nI len) from hlen]
  refine a_istore_n (lv' := [(3, .int (nI len)), (0, .ref 0), (1, .int (nI 0)), (2, .int (-1))]) dS_text_7 rfl (by decide) rfl ?_
  refine a_aload_n 1 dS_text_8 rfl rfl ?_
  refine a_geta (r := 1) dS_text_9 fl11_10 rfl ly_0 (by omega) (rf_0_0 hR) ?_
  refine a_iconstN (a := 0) dS_text_12 (by decide) ?_
  refine a_puti dS_text_13 fl11_69 rfl ly_1 (by omega) ?_
  rw [show m_up (m_row I 1 (I 1)) 1 1 (nI 0) = (m_row I 1 (va_up (I 1) 1 (nI 0))) from (by rw [m_up_r])]
  refine a_aload_n 1 dS_text_16 rfl rfl ?_
  refine a_geta (r := 1) dS_text_17 fl11_10 rfl ly_0 (by omega) (rf_0_0 hR) ?_
  refine a_iconstN (a := 0) dS_text_20 (by decide) ?_
  refine a_puti dS_text_21 fl11_77 rfl ly_1 (by omega) ?_
  rw [show m_up (m_row I 1 (va_up (I 1) 1 (nI 0))) 1 2 (nI 0) = (m_row I 1 (va_up (va_up (I 1) 1 (nI 0)) 2 (nI 0))) from (by rw [m_up_r])]
  refine a_aload_n 1 dS_text_24 rfl rfl ?_
  refine a_geta (r := 1) dS_text_25 fl11_10 rfl ly_0 (by omega) (rf_0_0 hR) ?_
  refine a_iconst (v := -1) dS_text_28 (by decide) ?_
  refine a_puti dS_text_29 fl11_80 rfl ly_1 (by omega) ?_
  rw [show m_up (m_row I 1 (va_up (va_up (I 1) 1 (nI 0)) 2 (nI 0))) 1 3 (-1) = (m_row I 1 (va_up (va_up (va_up (I 1) 1 (nI 0)) 2 (nI 0)) 3 (-1))) from (by rw [m_up_r])]
  refine a_aload_n 1 dS_text_32 rfl rfl ?_
  refine a_geta (r := 1) dS_text_33 fl11_10 rfl ly_0 (by omega) (rf_0_0 hR) ?_
  refine a_iload_n 2 dS_text_36 rfl rfl ?_
  refine a_iload_n 3 dS_text_37 rfl rfl ?_
  refine a_callV (Q' := m_res (some (.int (nI 1))) (m_row I 1 (va_up (va_up (va_up (I 1) 1 (nI 0)) 2 (nI 0)) 3 (-1))) J R) (as := [.int (nI 0), .int (-1)]) (st := []) dS_text_38 ml11_83 rfl (Nat.le_of_ble_eq_true rfl) ly_1 rfl rfl (by decide) (by omega) (Nat.le_of_ble_eq_true rfl) rfl (Nat.le_refl _) (Nat.le_refl _) (c_may0n1 hn hR (by show I 3 0 < nI 2; rw [h3]; decide)) (m_go ?_)
  show AW _ _ _ _ _ _ _ _ [.int (nI 1)] _ _ _ _
  refine a_if_ne (tgt := 47) dS_text_41 (by decide) (fun _ => ?_) (fun c => False.elim (absurd c (by decide)))
  refine a_aload_n 1 dS_text_47 rfl rfl ?_
  refine a_geta (r := 40) dS_text_48 fl11_23 rfl ly_0 (by omega) (rf_0_2 hR) ?_
  refine a_iload_n 2 dS_text_51 rfl rfl ?_
  refine a_aload_n 1 dS_text_52 rfl rfl ?_
  refine a_geta (r := 1) dS_text_53 fl11_10 rfl ly_0 (by omega) (rf_0_0 hR) ?_
  refine a_geta (r := 2) dS_text_56 fl11_87 rfl ly_1 (by omega) (rf_1_0 hR) ?_
  refine a_iload_n 0 dS_text_59 rfl rfl ?_
  refine a_callV (Q' := rdQ (m_row I 1 (va_up (va_up (va_up (I 1) 1 (nI 0)) 2 (nI 0)) 3 (-1))) J R 0 (rdA (I 2) len 0 (len + 1) 0 (0, 0, -1, -1, Di))) (as := [.int (nI 0), .ref 2, .int (nI len)]) (st := []) dS_text_60 ml11_91 rfl (Nat.le_of_ble_eq_true rfl) ly_40 rfl rfl (by decide) (by omega) (Nat.le_of_ble_eq_true rfl) rfl (Nat.le_refl _) (Nat.le_refl _) (c_read (I := (m_row I 1 (va_up (va_up (va_up (I 1) 1 (nI 0)) 2 (nI 0)) 3 (-1)))) hn hR hl6 (by decide) hD) ?_
  intro v I2 J2 R2 ⟨e0, e1, e2, hf, g3, g4, hd⟩
  rw [e0, e1, e2]
  have hR2 : m_fin (m_up R 40 5 (some 2)) := fin_40 hR
  have i1 : I2 1 = va_up (va_up (va_up (I 1) 1 (nI 0)) 2 (nI 0)) 3 (-1) := hf 1 (by omega)
  have i3 : I2 3 = I 3 := hf 3 (by omega)
  refine a_mem (show I2 = m_row I2 1 (I2 1) from (m_row_self).symm) ?_
  show AW _ _ _ _ _ _ _ _ [] _ _ _ _
  obtain ⟨nl, nw, H⟩ := hd hf0
  refine a_aload_n 1 dS_text_63 rfl rfl ?_
  refine a_geta (r := 1) dS_text_64 fl11_10 rfl ly_0 (by omega) (rf_0_0 hR2) ?_
  refine a_aload_n 1 dS_text_67 rfl rfl ?_
  refine a_geta (r := 40) dS_text_68 fl11_23 rfl ly_0 (by omega) (rf_0_2 hR2) ?_
  refine a_geti dS_text_71 fl11_95 rfl ly_40 (by omega) ?_
  rw [show (m_row I2 1 (I2 1)) 40 3 = (nI 0) from (by rw [show m_row I2 1 _ 40 3 = I2 40 3 from rfl, g3, hf0])]
  refine a_puti dS_text_74 fl11_77 rfl ly_1 (by omega) ?_
  rw [show m_up (m_row I2 1 (I2 1)) 1 2 (nI 0) = (m_row I2 1 (va_up (I2 1) 2 (nI 0))) from (by rw [m_up_r])]
  refine a_aload_n 1 dS_text_77 rfl rfl ?_
  refine a_geta (r := 1) dS_text_78 fl11_10 rfl ly_0 (by omega) (rf_0_0 hR2) ?_
  refine a_aload_n 1 dS_text_81 rfl rfl ?_
  refine a_geta (r := 40) dS_text_82 fl11_23 rfl ly_0 (by omega) (rf_0_2 hR2) ?_
  refine a_geti dS_text_85 fl11_96 rfl ly_40 (by omega) ?_
  rw [show (m_row I2 1 (va_up (I2 1) 2 (nI 0))) 40 4 = (-1) from (g4.trans (if_pos hf0))]
  refine a_puti dS_text_88 fl11_80 rfl ly_1 (by omega) ?_
  rw [show m_up (m_row I2 1 (va_up (I2 1) 2 (nI 0))) 1 3 (-1) = (m_row I2 1 (va_up (va_up (I2 1) 2 (nI 0)) 3 (-1))) from (by rw [m_up_r])]
  refine a_aload_n 1 dS_text_91 rfl rfl ?_
  refine a_geta (r := 1) dS_text_92 fl11_10 rfl ly_0 (by omega) (rf_0_0 hR2) ?_
  refine a_geti dS_text_95 fl11_77 rfl ly_1 (by omega) ?_
  rw [show (m_row I2 1 (va_up (va_up (I2 1) 2 (nI 0)) 3 (-1))) 1 2 = (nI 0) from rfl]
  refine a_if_eq (tgt := 103) dS_text_98 (by decide) (fun _ => ?_) (fun c => False.elim (c rfl))
  refine a_aload_n 1 dS_text_103 rfl rfl ?_
  refine a_geta (r := 1) dS_text_104 fl11_10 rfl ly_0 (by omega) (rf_0_0 hR2) ?_
  refine a_iload_n 2 dS_text_107 rfl rfl ?_
  refine a_iload_n 3 dS_text_108 rfl rfl ?_
  refine a_aload_n 1 dS_text_109 rfl rfl ?_
  refine a_geta (r := 40) dS_text_110 fl11_23 rfl ly_0 (by omega) (rf_0_2 hR2) ?_
  refine a_callV (Q' := m_res (some (.int (nI 0))) (cpB (m_up (m_row I2 1 (va_up (va_up (I2 1) 2 (nI 0)) 3 (-1))) 3 0 (nI 1)) 41 5 cplOffice) J (m_up R 40 5 (some 2))) (as := [.int (nI 0), .int (-1), .ref 40]) (st := []) dS_text_113 ml11_97 rfl (Nat.le_of_ble_eq_true rfl) ly_1 rfl rfl (by decide) (by omega) (Nat.le_of_ble_eq_true rfl) rfl (Nat.le_refl _) (Nat.le_refl _) (c_take00n (I := (m_row I2 1 (va_up (va_up (I2 1) 2 (nI 0)) 3 (-1)))) hn hR2 (by show I2 3 0 = nI 0; rw [i3]; exact h3)) (m_go ?_)
  show AW _ _ _ _ _ _ _ _ [.int (nI 0)] _ _ _ _
  exact a_iret dS_text_116 rfl ⟨rfl, (cp_off (w := 9) (by unfold cpW; decide) (by omega)).trans ((m_up_ne (by decide)).trans ((m_row_eq).trans (txr_e i1))), (cp_off (w := 9) (by unfold cpW; decide) (by omega)).trans ((m_up_eq).trans (by rw [show (m_row I2 1 (va_up (va_up (I2 1) 2 (nI 0)) 3 (-1))) 3 = I2 3 from rfl, i3])), fun a ha => (cp_off (w := 9) (by unfold cpW; decide) (by omega)).trans ((m_up_ne (by omega)).trans ((m_row_ne (by omega)).trans ((hf a (by omega)).trans (m_row_ne (by omega))))), ⟨nl, nw, OD_cp (OD_c H (fun a h1 h2 => (m_up_ne (by omega)).trans (m_row_ne (by omega))))⟩, KF.up40 (KF.refl hR)⟩
theorem q_S_text0n1 {S : Nat × (Nat → Int32)} {d n : Nat} {I : mI} {J : mJ} {R : mR} (hn : 122 ≤ n) (hR : m_fin R) {len : Nat} (hlen : I 1 1 = nI len) (hl6 : len ≤ 600) (h3 : I 3 0 = nI 1) {Di : Nat → Int32} (hD : ∀ j, j < 121 → Di j = D0 0 j) (hf0 : (rdA (I 2) len 0 (len + 1) 0 (0, 0, -1, -1, Di)).f = 0) : AW S (d + 9) YS_text n n (txQ I R (nI 1) (nI 0) (-1) (va_up (I 3) 0 (nI 2)) 14 22 (fun X => ∃ nl nw, OD X 14 (rdA (I 2) len 0 (len + 1) 0 (0, 0, -1, -1, Di)).D nl nw)) 0 [(0, .ref 0), (1, .int (nI 0)), (2, .int (-1))] [] I J R n := by
  refine a_mem (show I = m_row I 1 (I 1) from (m_row_self).symm) ?_
  refine a_aload_n 0 dS_text_0 rfl rfl ?_
  refine a_geta (r := 1) dS_text_1 fl11_10 rfl ly_0 (by omega) (rf_0_0 hR) ?_
  refine a_geti dS_text_4 fl11_69 rfl ly_1 (by omega) ?_
  rw [show (m_row I 1 (I 1)) 1 1 = (nI len) from hlen]
  refine a_istore_n (lv' := [(3, .int (nI len)), (0, .ref 0), (1, .int (nI 0)), (2, .int (-1))]) dS_text_7 rfl (by decide) rfl ?_
  refine a_aload_n 1 dS_text_8 rfl rfl ?_
  refine a_geta (r := 1) dS_text_9 fl11_10 rfl ly_0 (by omega) (rf_0_0 hR) ?_
  refine a_iconstN (a := 0) dS_text_12 (by decide) ?_
  refine a_puti dS_text_13 fl11_69 rfl ly_1 (by omega) ?_
  rw [show m_up (m_row I 1 (I 1)) 1 1 (nI 0) = (m_row I 1 (va_up (I 1) 1 (nI 0))) from (by rw [m_up_r])]
  refine a_aload_n 1 dS_text_16 rfl rfl ?_
  refine a_geta (r := 1) dS_text_17 fl11_10 rfl ly_0 (by omega) (rf_0_0 hR) ?_
  refine a_iconstN (a := 0) dS_text_20 (by decide) ?_
  refine a_puti dS_text_21 fl11_77 rfl ly_1 (by omega) ?_
  rw [show m_up (m_row I 1 (va_up (I 1) 1 (nI 0))) 1 2 (nI 0) = (m_row I 1 (va_up (va_up (I 1) 1 (nI 0)) 2 (nI 0))) from (by rw [m_up_r])]
  refine a_aload_n 1 dS_text_24 rfl rfl ?_
  refine a_geta (r := 1) dS_text_25 fl11_10 rfl ly_0 (by omega) (rf_0_0 hR) ?_
  refine a_iconst (v := -1) dS_text_28 (by decide) ?_
  refine a_puti dS_text_29 fl11_80 rfl ly_1 (by omega) ?_
  rw [show m_up (m_row I 1 (va_up (va_up (I 1) 1 (nI 0)) 2 (nI 0))) 1 3 (-1) = (m_row I 1 (va_up (va_up (va_up (I 1) 1 (nI 0)) 2 (nI 0)) 3 (-1))) from (by rw [m_up_r])]
  refine a_aload_n 1 dS_text_32 rfl rfl ?_
  refine a_geta (r := 1) dS_text_33 fl11_10 rfl ly_0 (by omega) (rf_0_0 hR) ?_
  refine a_iload_n 2 dS_text_36 rfl rfl ?_
  refine a_iload_n 3 dS_text_37 rfl rfl ?_
  refine a_callV (Q' := m_res (some (.int (nI 1))) (m_row I 1 (va_up (va_up (va_up (I 1) 1 (nI 0)) 2 (nI 0)) 3 (-1))) J R) (as := [.int (nI 0), .int (-1)]) (st := []) dS_text_38 ml11_83 rfl (Nat.le_of_ble_eq_true rfl) ly_1 rfl rfl (by decide) (by omega) (Nat.le_of_ble_eq_true rfl) rfl (Nat.le_refl _) (Nat.le_refl _) (c_may0n1 hn hR (by show I 3 0 < nI 2; rw [h3]; decide)) (m_go ?_)
  show AW _ _ _ _ _ _ _ _ [.int (nI 1)] _ _ _ _
  refine a_if_ne (tgt := 47) dS_text_41 (by decide) (fun _ => ?_) (fun c => False.elim (absurd c (by decide)))
  refine a_aload_n 1 dS_text_47 rfl rfl ?_
  refine a_geta (r := 40) dS_text_48 fl11_23 rfl ly_0 (by omega) (rf_0_2 hR) ?_
  refine a_iload_n 2 dS_text_51 rfl rfl ?_
  refine a_aload_n 1 dS_text_52 rfl rfl ?_
  refine a_geta (r := 1) dS_text_53 fl11_10 rfl ly_0 (by omega) (rf_0_0 hR) ?_
  refine a_geta (r := 2) dS_text_56 fl11_87 rfl ly_1 (by omega) (rf_1_0 hR) ?_
  refine a_iload_n 0 dS_text_59 rfl rfl ?_
  refine a_callV (Q' := rdQ (m_row I 1 (va_up (va_up (va_up (I 1) 1 (nI 0)) 2 (nI 0)) 3 (-1))) J R 0 (rdA (I 2) len 0 (len + 1) 0 (0, 0, -1, -1, Di))) (as := [.int (nI 0), .ref 2, .int (nI len)]) (st := []) dS_text_60 ml11_91 rfl (Nat.le_of_ble_eq_true rfl) ly_40 rfl rfl (by decide) (by omega) (Nat.le_of_ble_eq_true rfl) rfl (Nat.le_refl _) (Nat.le_refl _) (c_read (I := (m_row I 1 (va_up (va_up (va_up (I 1) 1 (nI 0)) 2 (nI 0)) 3 (-1)))) hn hR hl6 (by decide) hD) ?_
  intro v I2 J2 R2 ⟨e0, e1, e2, hf, g3, g4, hd⟩
  rw [e0, e1, e2]
  have hR2 : m_fin (m_up R 40 5 (some 2)) := fin_40 hR
  have i1 : I2 1 = va_up (va_up (va_up (I 1) 1 (nI 0)) 2 (nI 0)) 3 (-1) := hf 1 (by omega)
  have i3 : I2 3 = I 3 := hf 3 (by omega)
  refine a_mem (show I2 = m_row I2 1 (I2 1) from (m_row_self).symm) ?_
  show AW _ _ _ _ _ _ _ _ [] _ _ _ _
  obtain ⟨nl, nw, H⟩ := hd hf0
  refine a_aload_n 1 dS_text_63 rfl rfl ?_
  refine a_geta (r := 1) dS_text_64 fl11_10 rfl ly_0 (by omega) (rf_0_0 hR2) ?_
  refine a_aload_n 1 dS_text_67 rfl rfl ?_
  refine a_geta (r := 40) dS_text_68 fl11_23 rfl ly_0 (by omega) (rf_0_2 hR2) ?_
  refine a_geti dS_text_71 fl11_95 rfl ly_40 (by omega) ?_
  rw [show (m_row I2 1 (I2 1)) 40 3 = (nI 0) from (by rw [show m_row I2 1 _ 40 3 = I2 40 3 from rfl, g3, hf0])]
  refine a_puti dS_text_74 fl11_77 rfl ly_1 (by omega) ?_
  rw [show m_up (m_row I2 1 (I2 1)) 1 2 (nI 0) = (m_row I2 1 (va_up (I2 1) 2 (nI 0))) from (by rw [m_up_r])]
  refine a_aload_n 1 dS_text_77 rfl rfl ?_
  refine a_geta (r := 1) dS_text_78 fl11_10 rfl ly_0 (by omega) (rf_0_0 hR2) ?_
  refine a_aload_n 1 dS_text_81 rfl rfl ?_
  refine a_geta (r := 40) dS_text_82 fl11_23 rfl ly_0 (by omega) (rf_0_2 hR2) ?_
  refine a_geti dS_text_85 fl11_96 rfl ly_40 (by omega) ?_
  rw [show (m_row I2 1 (va_up (I2 1) 2 (nI 0))) 40 4 = (-1) from (g4.trans (if_pos hf0))]
  refine a_puti dS_text_88 fl11_80 rfl ly_1 (by omega) ?_
  rw [show m_up (m_row I2 1 (va_up (I2 1) 2 (nI 0))) 1 3 (-1) = (m_row I2 1 (va_up (va_up (I2 1) 2 (nI 0)) 3 (-1))) from (by rw [m_up_r])]
  refine a_aload_n 1 dS_text_91 rfl rfl ?_
  refine a_geta (r := 1) dS_text_92 fl11_10 rfl ly_0 (by omega) (rf_0_0 hR2) ?_
  refine a_geti dS_text_95 fl11_77 rfl ly_1 (by omega) ?_
  rw [show (m_row I2 1 (va_up (va_up (I2 1) 2 (nI 0)) 3 (-1))) 1 2 = (nI 0) from rfl]
  refine a_if_eq (tgt := 103) dS_text_98 (by decide) (fun _ => ?_) (fun c => False.elim (c rfl))
  refine a_aload_n 1 dS_text_103 rfl rfl ?_
  refine a_geta (r := 1) dS_text_104 fl11_10 rfl ly_0 (by omega) (rf_0_0 hR2) ?_
  refine a_iload_n 2 dS_text_107 rfl rfl ?_
  refine a_iload_n 3 dS_text_108 rfl rfl ?_
  refine a_aload_n 1 dS_text_109 rfl rfl ?_
  refine a_geta (r := 40) dS_text_110 fl11_23 rfl ly_0 (by omega) (rf_0_2 hR2) ?_
  refine a_callV (Q' := m_res (some (.int (nI 1))) (cpB (m_up (m_row I2 1 (va_up (va_up (I2 1) 2 (nI 0)) 3 (-1))) 3 0 (nI 2)) 41 14 cplOffice) J (m_up R 40 5 (some 2))) (as := [.int (nI 0), .int (-1), .ref 40]) (st := []) dS_text_113 ml11_97 rfl (Nat.le_of_ble_eq_true rfl) ly_1 rfl rfl (by decide) (by omega) (Nat.le_of_ble_eq_true rfl) rfl (Nat.le_refl _) (Nat.le_refl _) (c_take01n (I := (m_row I2 1 (va_up (va_up (I2 1) 2 (nI 0)) 3 (-1)))) hn hR2 (by show I2 3 0 = nI 1; rw [i3]; exact h3)) (m_go ?_)
  show AW _ _ _ _ _ _ _ _ [.int (nI 1)] _ _ _ _
  exact a_iret dS_text_116 rfl ⟨rfl, (cp_off (w := 9) (by unfold cpW; decide) (by omega)).trans ((m_up_ne (by decide)).trans ((m_row_eq).trans (txr_e i1))), (cp_off (w := 9) (by unfold cpW; decide) (by omega)).trans ((m_up_eq).trans (by rw [show (m_row I2 1 (va_up (va_up (I2 1) 2 (nI 0)) 3 (-1))) 3 = I2 3 from rfl, i3])), fun a ha => (cp_off (w := 9) (by unfold cpW; decide) (by omega)).trans ((m_up_ne (by omega)).trans ((m_row_ne (by omega)).trans ((hf a (by omega)).trans (m_row_ne (by omega))))), ⟨nl, nw, OD_cp (OD_c H (fun a h1 h2 => (m_up_ne (by omega)).trans (m_row_ne (by omega))))⟩, KF.up40 (KF.refl hR)⟩
theorem q_S_text0oF {S : Nat × (Nat → Int32)} {d n : Nat} {I : mI} {J : mJ} {R : mR} (hn : 122 ≤ n) (hR : m_fin R) {len : Nat} (hlen : I 1 1 = nI len) (hl6 : len ≤ 600) {y : Int32} (hy : ¬ y = -1) (h : f_of y (I 3 0) = 1) {Di : Nat → Int32} (hD : ∀ j, j < 121 → Di j = D0 0 j) (h5 : (rdA (I 2) len 0 (len + 1) 0 (0, 0, -1, -1, Di)).f < 5) (hf0 : ¬ (rdA (I 2) len 0 (len + 1) 0 (0, 0, -1, -1, Di)).f = 0) : AW S (d + 9) YS_text n n (txQ I R (-1) (nI (rdA (I 2) len 0 (len + 1) 0 (0, 0, -1, -1, Di)).f) (nI (rdA (I 2) len 0 (len + 1) 0 (0, 0, -1, -1, Di)).pl) (I 3) 40 0 (fun _ => True)) 0 [(0, .ref 0), (1, .int (nI 0)), (2, .int y)] [] I J R n := by
  refine a_mem (show I = m_row I 1 (I 1) from (m_row_self).symm) ?_
  refine a_aload_n 0 dS_text_0 rfl rfl ?_
  refine a_geta (r := 1) dS_text_1 fl11_10 rfl ly_0 (by omega) (rf_0_0 hR) ?_
  refine a_geti dS_text_4 fl11_69 rfl ly_1 (by omega) ?_
  rw [show (m_row I 1 (I 1)) 1 1 = (nI len) from hlen]
  refine a_istore_n (lv' := [(3, .int (nI len)), (0, .ref 0), (1, .int (nI 0)), (2, .int y)]) dS_text_7 rfl (by decide) rfl ?_
  refine a_aload_n 1 dS_text_8 rfl rfl ?_
  refine a_geta (r := 1) dS_text_9 fl11_10 rfl ly_0 (by omega) (rf_0_0 hR) ?_
  refine a_iconstN (a := 0) dS_text_12 (by decide) ?_
  refine a_puti dS_text_13 fl11_69 rfl ly_1 (by omega) ?_
  rw [show m_up (m_row I 1 (I 1)) 1 1 (nI 0) = (m_row I 1 (va_up (I 1) 1 (nI 0))) from (by rw [m_up_r])]
  refine a_aload_n 1 dS_text_16 rfl rfl ?_
  refine a_geta (r := 1) dS_text_17 fl11_10 rfl ly_0 (by omega) (rf_0_0 hR) ?_
  refine a_iconstN (a := 0) dS_text_20 (by decide) ?_
  refine a_puti dS_text_21 fl11_77 rfl ly_1 (by omega) ?_
  rw [show m_up (m_row I 1 (va_up (I 1) 1 (nI 0))) 1 2 (nI 0) = (m_row I 1 (va_up (va_up (I 1) 1 (nI 0)) 2 (nI 0))) from (by rw [m_up_r])]
  refine a_aload_n 1 dS_text_24 rfl rfl ?_
  refine a_geta (r := 1) dS_text_25 fl11_10 rfl ly_0 (by omega) (rf_0_0 hR) ?_
  refine a_iconst (v := -1) dS_text_28 (by decide) ?_
  refine a_puti dS_text_29 fl11_80 rfl ly_1 (by omega) ?_
  rw [show m_up (m_row I 1 (va_up (va_up (I 1) 1 (nI 0)) 2 (nI 0))) 1 3 (-1) = (m_row I 1 (va_up (va_up (va_up (I 1) 1 (nI 0)) 2 (nI 0)) 3 (-1))) from (by rw [m_up_r])]
  refine a_aload_n 1 dS_text_32 rfl rfl ?_
  refine a_geta (r := 1) dS_text_33 fl11_10 rfl ly_0 (by omega) (rf_0_0 hR) ?_
  refine a_iload_n 2 dS_text_36 rfl rfl ?_
  refine a_iload_n 3 dS_text_37 rfl rfl ?_
  refine a_callV (Q' := m_res (some (.int 1)) (m_row I 1 (va_up (va_up (va_up (I 1) 1 (nI 0)) 2 (nI 0)) 3 (-1))) J R) (as := [.int (nI 0), .int y]) (st := []) dS_text_38 ml11_83 rfl (Nat.le_of_ble_eq_true rfl) ly_1 rfl rfl (by decide) (by omega) (Nat.le_of_ble_eq_true rfl) rfl (Nat.le_refl _) (Nat.le_refl _) (by have q := c_may0o (S := S) (d := d + 7) (n := n) (I := (m_row I 1 (va_up (va_up (va_up (I 1) 1 (nI 0)) 2 (nI 0)) 3 (-1)))) (J := J) (R := R) hn hR (y := y) hy; rw [show (m_row I 1 (va_up (va_up (va_up (I 1) 1 (nI 0)) 2 (nI 0)) 3 (-1))) 3 0 = I 3 0 from rfl, h] at q; exact q) (m_go ?_)
  show AW _ _ _ _ _ _ _ _ [.int 1] _ _ _ _
  refine a_if_ne (tgt := 47) dS_text_41 (by decide) (fun _ => ?_) (fun c => False.elim (absurd c (by decide)))
  refine a_aload_n 1 dS_text_47 rfl rfl ?_
  refine a_geta (r := 40) dS_text_48 fl11_23 rfl ly_0 (by omega) (rf_0_2 hR) ?_
  refine a_iload_n 2 dS_text_51 rfl rfl ?_
  refine a_aload_n 1 dS_text_52 rfl rfl ?_
  refine a_geta (r := 1) dS_text_53 fl11_10 rfl ly_0 (by omega) (rf_0_0 hR) ?_
  refine a_geta (r := 2) dS_text_56 fl11_87 rfl ly_1 (by omega) (rf_1_0 hR) ?_
  refine a_iload_n 0 dS_text_59 rfl rfl ?_
  refine a_callV (Q' := rdQ (m_row I 1 (va_up (va_up (va_up (I 1) 1 (nI 0)) 2 (nI 0)) 3 (-1))) J R 0 (rdA (I 2) len 0 (len + 1) 0 (0, 0, -1, -1, Di))) (as := [.int (nI 0), .ref 2, .int (nI len)]) (st := []) dS_text_60 ml11_91 rfl (Nat.le_of_ble_eq_true rfl) ly_40 rfl rfl (by decide) (by omega) (Nat.le_of_ble_eq_true rfl) rfl (Nat.le_refl _) (Nat.le_refl _) (c_read (I := (m_row I 1 (va_up (va_up (va_up (I 1) 1 (nI 0)) 2 (nI 0)) 3 (-1)))) hn hR hl6 (by decide) hD) ?_
  intro v I2 J2 R2 ⟨e0, e1, e2, hf, g3, g4, hd⟩
  rw [e0, e1, e2]
  have hR2 : m_fin (m_up R 40 5 (some 2)) := fin_40 hR
  have i1 : I2 1 = va_up (va_up (va_up (I 1) 1 (nI 0)) 2 (nI 0)) 3 (-1) := hf 1 (by omega)
  have i3 : I2 3 = I 3 := hf 3 (by omega)
  refine a_mem (show I2 = m_row I2 1 (I2 1) from (m_row_self).symm) ?_
  show AW _ _ _ _ _ _ _ _ [] _ _ _ _
  have hz : ¬ nI (rdA (I 2) len 0 (len + 1) 0 (0, 0, -1, -1, Di)).f = 0 := fun q => hf0 (by rw [show (0 : Int32) = nI 0 from rfl, nI_eq (by have := h5; omega) (by decide)] at q; exact q)
  refine a_aload_n 1 dS_text_63 rfl rfl ?_
  refine a_geta (r := 1) dS_text_64 fl11_10 rfl ly_0 (by omega) (rf_0_0 hR2) ?_
  refine a_aload_n 1 dS_text_67 rfl rfl ?_
  refine a_geta (r := 40) dS_text_68 fl11_23 rfl ly_0 (by omega) (rf_0_2 hR2) ?_
  refine a_geti dS_text_71 fl11_95 rfl ly_40 (by omega) ?_
  rw [show (m_row I2 1 (I2 1)) 40 3 = (nI (rdA (I 2) len 0 (len + 1) 0 (0, 0, -1, -1, Di)).f) from g3]
  refine a_puti dS_text_74 fl11_77 rfl ly_1 (by omega) ?_
  rw [show m_up (m_row I2 1 (I2 1)) 1 2 (nI (rdA (I 2) len 0 (len + 1) 0 (0, 0, -1, -1, Di)).f) = (m_row I2 1 (va_up (I2 1) 2 (nI (rdA (I 2) len 0 (len + 1) 0 (0, 0, -1, -1, Di)).f))) from (by rw [m_up_r])]
  refine a_aload_n 1 dS_text_77 rfl rfl ?_
  refine a_geta (r := 1) dS_text_78 fl11_10 rfl ly_0 (by omega) (rf_0_0 hR2) ?_
  refine a_aload_n 1 dS_text_81 rfl rfl ?_
  refine a_geta (r := 40) dS_text_82 fl11_23 rfl ly_0 (by omega) (rf_0_2 hR2) ?_
  refine a_geti dS_text_85 fl11_96 rfl ly_40 (by omega) ?_
  rw [show (m_row I2 1 (va_up (I2 1) 2 (nI (rdA (I 2) len 0 (len + 1) 0 (0, 0, -1, -1, Di)).f))) 40 4 = (nI (rdA (I 2) len 0 (len + 1) 0 (0, 0, -1, -1, Di)).pl) from (g4.trans (if_neg hf0))]
  refine a_puti dS_text_88 fl11_80 rfl ly_1 (by omega) ?_
  rw [show m_up (m_row I2 1 (va_up (I2 1) 2 (nI (rdA (I 2) len 0 (len + 1) 0 (0, 0, -1, -1, Di)).f))) 1 3 (nI (rdA (I 2) len 0 (len + 1) 0 (0, 0, -1, -1, Di)).pl) = (m_row I2 1 (va_up (va_up (I2 1) 2 (nI (rdA (I 2) len 0 (len + 1) 0 (0, 0, -1, -1, Di)).f)) 3 (nI (rdA (I 2) len 0 (len + 1) 0 (0, 0, -1, -1, Di)).pl))) from (by rw [m_up_r])]
  refine a_aload_n 1 dS_text_91 rfl rfl ?_
  refine a_geta (r := 1) dS_text_92 fl11_10 rfl ly_0 (by omega) (rf_0_0 hR2) ?_
  refine a_geti dS_text_95 fl11_77 rfl ly_1 (by omega) ?_
  rw [show (m_row I2 1 (va_up (va_up (I2 1) 2 (nI (rdA (I 2) len 0 (len + 1) 0 (0, 0, -1, -1, Di)).f)) 3 (nI (rdA (I 2) len 0 (len + 1) 0 (0, 0, -1, -1, Di)).pl))) 1 2 = (nI (rdA (I 2) len 0 (len + 1) 0 (0, 0, -1, -1, Di)).f) from rfl]
  refine a_if_eq (tgt := 103) dS_text_98 (by decide) (fun c => False.elim (hz c)) (fun _ => ?_)
  refine a_iconst (v := -1) dS_text_101 (by decide) ?_
  exact a_iret dS_text_102 rfl ⟨rfl, (m_row_eq).trans (txr_e i1), i3, fun a ha => (m_row_ne (by omega)).trans ((hf a (by omega)).trans (m_row_ne (by omega))), trivial, KF.up40 (KF.refl hR)⟩
theorem q_S_text0o0 {S : Nat × (Nat → Int32)} {d n : Nat} {I : mI} {J : mJ} {R : mR} (hn : 122 ≤ n) (hR : m_fin R) {len : Nat} (hlen : I 1 1 = nI len) (hl6 : len ≤ 600) (h1 : f_of (nI 0) (I 3 0) = 1) {Di : Nat → Int32} (hD : ∀ j, j < 121 → Di j = D0 0 j) (hf0 : (rdA (I 2) len 0 (len + 1) 0 (0, 0, -1, -1, Di)).f = 0) : AW S (d + 9) YS_text n n (txQ I R (nI 0) (nI 0) (-1) (I 3) 5 13 (fun X => ∃ nl nw, OD X 5 (rdA (I 2) len 0 (len + 1) 0 (0, 0, -1, -1, Di)).D nl nw)) 0 [(0, .ref 0), (1, .int (nI 0)), (2, .int (nI 0))] [] I J R n := by
  refine a_mem (show I = m_row I 1 (I 1) from (m_row_self).symm) ?_
  refine a_aload_n 0 dS_text_0 rfl rfl ?_
  refine a_geta (r := 1) dS_text_1 fl11_10 rfl ly_0 (by omega) (rf_0_0 hR) ?_
  refine a_geti dS_text_4 fl11_69 rfl ly_1 (by omega) ?_
  rw [show (m_row I 1 (I 1)) 1 1 = (nI len) from hlen]
  refine a_istore_n (lv' := [(3, .int (nI len)), (0, .ref 0), (1, .int (nI 0)), (2, .int (nI 0))]) dS_text_7 rfl (by decide) rfl ?_
  refine a_aload_n 1 dS_text_8 rfl rfl ?_
  refine a_geta (r := 1) dS_text_9 fl11_10 rfl ly_0 (by omega) (rf_0_0 hR) ?_
  refine a_iconstN (a := 0) dS_text_12 (by decide) ?_
  refine a_puti dS_text_13 fl11_69 rfl ly_1 (by omega) ?_
  rw [show m_up (m_row I 1 (I 1)) 1 1 (nI 0) = (m_row I 1 (va_up (I 1) 1 (nI 0))) from (by rw [m_up_r])]
  refine a_aload_n 1 dS_text_16 rfl rfl ?_
  refine a_geta (r := 1) dS_text_17 fl11_10 rfl ly_0 (by omega) (rf_0_0 hR) ?_
  refine a_iconstN (a := 0) dS_text_20 (by decide) ?_
  refine a_puti dS_text_21 fl11_77 rfl ly_1 (by omega) ?_
  rw [show m_up (m_row I 1 (va_up (I 1) 1 (nI 0))) 1 2 (nI 0) = (m_row I 1 (va_up (va_up (I 1) 1 (nI 0)) 2 (nI 0))) from (by rw [m_up_r])]
  refine a_aload_n 1 dS_text_24 rfl rfl ?_
  refine a_geta (r := 1) dS_text_25 fl11_10 rfl ly_0 (by omega) (rf_0_0 hR) ?_
  refine a_iconst (v := -1) dS_text_28 (by decide) ?_
  refine a_puti dS_text_29 fl11_80 rfl ly_1 (by omega) ?_
  rw [show m_up (m_row I 1 (va_up (va_up (I 1) 1 (nI 0)) 2 (nI 0))) 1 3 (-1) = (m_row I 1 (va_up (va_up (va_up (I 1) 1 (nI 0)) 2 (nI 0)) 3 (-1))) from (by rw [m_up_r])]
  refine a_aload_n 1 dS_text_32 rfl rfl ?_
  refine a_geta (r := 1) dS_text_33 fl11_10 rfl ly_0 (by omega) (rf_0_0 hR) ?_
  refine a_iload_n 2 dS_text_36 rfl rfl ?_
  refine a_iload_n 3 dS_text_37 rfl rfl ?_
  refine a_callV (Q' := m_res (some (.int 1)) (m_row I 1 (va_up (va_up (va_up (I 1) 1 (nI 0)) 2 (nI 0)) 3 (-1))) J R) (as := [.int (nI 0), .int (nI 0)]) (st := []) dS_text_38 ml11_83 rfl (Nat.le_of_ble_eq_true rfl) ly_1 rfl rfl (by decide) (by omega) (Nat.le_of_ble_eq_true rfl) rfl (Nat.le_refl _) (Nat.le_refl _) (by have q := c_may0o (S := S) (d := d + 7) (n := n) (I := (m_row I 1 (va_up (va_up (va_up (I 1) 1 (nI 0)) 2 (nI 0)) 3 (-1)))) (J := J) (R := R) hn hR (y := nI 0) (by decide); rw [show (m_row I 1 (va_up (va_up (va_up (I 1) 1 (nI 0)) 2 (nI 0)) 3 (-1))) 3 0 = I 3 0 from rfl, h1] at q; exact q) (m_go ?_)
  show AW _ _ _ _ _ _ _ _ [.int 1] _ _ _ _
  refine a_if_ne (tgt := 47) dS_text_41 (by decide) (fun _ => ?_) (fun c => False.elim (absurd c (by decide)))
  refine a_aload_n 1 dS_text_47 rfl rfl ?_
  refine a_geta (r := 40) dS_text_48 fl11_23 rfl ly_0 (by omega) (rf_0_2 hR) ?_
  refine a_iload_n 2 dS_text_51 rfl rfl ?_
  refine a_aload_n 1 dS_text_52 rfl rfl ?_
  refine a_geta (r := 1) dS_text_53 fl11_10 rfl ly_0 (by omega) (rf_0_0 hR) ?_
  refine a_geta (r := 2) dS_text_56 fl11_87 rfl ly_1 (by omega) (rf_1_0 hR) ?_
  refine a_iload_n 0 dS_text_59 rfl rfl ?_
  refine a_callV (Q' := rdQ (m_row I 1 (va_up (va_up (va_up (I 1) 1 (nI 0)) 2 (nI 0)) 3 (-1))) J R 0 (rdA (I 2) len 0 (len + 1) 0 (0, 0, -1, -1, Di))) (as := [.int (nI 0), .ref 2, .int (nI len)]) (st := []) dS_text_60 ml11_91 rfl (Nat.le_of_ble_eq_true rfl) ly_40 rfl rfl (by decide) (by omega) (Nat.le_of_ble_eq_true rfl) rfl (Nat.le_refl _) (Nat.le_refl _) (c_read (I := (m_row I 1 (va_up (va_up (va_up (I 1) 1 (nI 0)) 2 (nI 0)) 3 (-1)))) hn hR hl6 (by decide) hD) ?_
  intro v I2 J2 R2 ⟨e0, e1, e2, hf, g3, g4, hd⟩
  rw [e0, e1, e2]
  have hR2 : m_fin (m_up R 40 5 (some 2)) := fin_40 hR
  have i1 : I2 1 = va_up (va_up (va_up (I 1) 1 (nI 0)) 2 (nI 0)) 3 (-1) := hf 1 (by omega)
  have i3 : I2 3 = I 3 := hf 3 (by omega)
  refine a_mem (show I2 = m_row I2 1 (I2 1) from (m_row_self).symm) ?_
  show AW _ _ _ _ _ _ _ _ [] _ _ _ _
  obtain ⟨nl, nw, H⟩ := hd hf0
  refine a_aload_n 1 dS_text_63 rfl rfl ?_
  refine a_geta (r := 1) dS_text_64 fl11_10 rfl ly_0 (by omega) (rf_0_0 hR2) ?_
  refine a_aload_n 1 dS_text_67 rfl rfl ?_
  refine a_geta (r := 40) dS_text_68 fl11_23 rfl ly_0 (by omega) (rf_0_2 hR2) ?_
  refine a_geti dS_text_71 fl11_95 rfl ly_40 (by omega) ?_
  rw [show (m_row I2 1 (I2 1)) 40 3 = (nI 0) from (by rw [show m_row I2 1 _ 40 3 = I2 40 3 from rfl, g3, hf0])]
  refine a_puti dS_text_74 fl11_77 rfl ly_1 (by omega) ?_
  rw [show m_up (m_row I2 1 (I2 1)) 1 2 (nI 0) = (m_row I2 1 (va_up (I2 1) 2 (nI 0))) from (by rw [m_up_r])]
  refine a_aload_n 1 dS_text_77 rfl rfl ?_
  refine a_geta (r := 1) dS_text_78 fl11_10 rfl ly_0 (by omega) (rf_0_0 hR2) ?_
  refine a_aload_n 1 dS_text_81 rfl rfl ?_
  refine a_geta (r := 40) dS_text_82 fl11_23 rfl ly_0 (by omega) (rf_0_2 hR2) ?_
  refine a_geti dS_text_85 fl11_96 rfl ly_40 (by omega) ?_
  rw [show (m_row I2 1 (va_up (I2 1) 2 (nI 0))) 40 4 = (-1) from (g4.trans (if_pos hf0))]
  refine a_puti dS_text_88 fl11_80 rfl ly_1 (by omega) ?_
  rw [show m_up (m_row I2 1 (va_up (I2 1) 2 (nI 0))) 1 3 (-1) = (m_row I2 1 (va_up (va_up (I2 1) 2 (nI 0)) 3 (-1))) from (by rw [m_up_r])]
  refine a_aload_n 1 dS_text_91 rfl rfl ?_
  refine a_geta (r := 1) dS_text_92 fl11_10 rfl ly_0 (by omega) (rf_0_0 hR2) ?_
  refine a_geti dS_text_95 fl11_77 rfl ly_1 (by omega) ?_
  rw [show (m_row I2 1 (va_up (va_up (I2 1) 2 (nI 0)) 3 (-1))) 1 2 = (nI 0) from rfl]
  refine a_if_eq (tgt := 103) dS_text_98 (by decide) (fun _ => ?_) (fun c => False.elim (c rfl))
  refine a_aload_n 1 dS_text_103 rfl rfl ?_
  refine a_geta (r := 1) dS_text_104 fl11_10 rfl ly_0 (by omega) (rf_0_0 hR2) ?_
  refine a_iload_n 2 dS_text_107 rfl rfl ?_
  refine a_iload_n 3 dS_text_108 rfl rfl ?_
  refine a_aload_n 1 dS_text_109 rfl rfl ?_
  refine a_geta (r := 40) dS_text_110 fl11_23 rfl ly_0 (by omega) (rf_0_2 hR2) ?_
  refine a_callV (Q' := m_res (some (.int (nI 0))) (cpB (m_row I2 1 (va_up (va_up (I2 1) 2 (nI 0)) 3 (-1))) 41 5 cplOffice) J (m_up R 40 5 (some 2))) (as := [.int (nI 0), .int (nI 0), .ref 40]) (st := []) dS_text_113 ml11_97 rfl (Nat.le_of_ble_eq_true rfl) ly_1 rfl rfl (by decide) (by omega) (Nat.le_of_ble_eq_true rfl) rfl (Nat.le_refl _) (Nat.le_refl _) (c_take00o (I := (m_row I2 1 (va_up (va_up (I2 1) 2 (nI 0)) 3 (-1)))) hn hR2 (by show f_of (nI 0) (I2 3 0) = 1; rw [i3]; exact h1)) (m_go ?_)
  show AW _ _ _ _ _ _ _ _ [.int (nI 0)] _ _ _ _
  exact a_iret dS_text_116 rfl ⟨rfl, (cp_off (w := 9) (by unfold cpW; decide) (by omega)).trans (((m_row_eq).trans (txr_e i1))), (cp_off (w := 9) (by unfold cpW; decide) (by omega)).trans ((m_row_ne (by decide)).trans i3), fun a ha => (cp_off (w := 9) (by unfold cpW; decide) (by omega)).trans (((m_row_ne (by omega)).trans ((hf a (by omega)).trans (m_row_ne (by omega))))), ⟨nl, nw, OD_cp (OD_c H (fun a h1 h2 => m_row_ne (by omega)))⟩, KF.up40 (KF.refl hR)⟩
theorem q_S_text0o1 {S : Nat × (Nat → Int32)} {d n : Nat} {I : mI} {J : mJ} {R : mR} (hn : 122 ≤ n) (hR : m_fin R) {len : Nat} (hlen : I 1 1 = nI len) (hl6 : len ≤ 600) (h1 : f_of (nI 1) (I 3 0) = 1) {Di : Nat → Int32} (hD : ∀ j, j < 121 → Di j = D0 0 j) (hf0 : (rdA (I 2) len 0 (len + 1) 0 (0, 0, -1, -1, Di)).f = 0) : AW S (d + 9) YS_text n n (txQ I R (nI 1) (nI 0) (-1) (I 3) 14 22 (fun X => ∃ nl nw, OD X 14 (rdA (I 2) len 0 (len + 1) 0 (0, 0, -1, -1, Di)).D nl nw)) 0 [(0, .ref 0), (1, .int (nI 0)), (2, .int (nI 1))] [] I J R n := by
  refine a_mem (show I = m_row I 1 (I 1) from (m_row_self).symm) ?_
  refine a_aload_n 0 dS_text_0 rfl rfl ?_
  refine a_geta (r := 1) dS_text_1 fl11_10 rfl ly_0 (by omega) (rf_0_0 hR) ?_
  refine a_geti dS_text_4 fl11_69 rfl ly_1 (by omega) ?_
  rw [show (m_row I 1 (I 1)) 1 1 = (nI len) from hlen]
  refine a_istore_n (lv' := [(3, .int (nI len)), (0, .ref 0), (1, .int (nI 0)), (2, .int (nI 1))]) dS_text_7 rfl (by decide) rfl ?_
  refine a_aload_n 1 dS_text_8 rfl rfl ?_
  refine a_geta (r := 1) dS_text_9 fl11_10 rfl ly_0 (by omega) (rf_0_0 hR) ?_
  refine a_iconstN (a := 0) dS_text_12 (by decide) ?_
  refine a_puti dS_text_13 fl11_69 rfl ly_1 (by omega) ?_
  rw [show m_up (m_row I 1 (I 1)) 1 1 (nI 0) = (m_row I 1 (va_up (I 1) 1 (nI 0))) from (by rw [m_up_r])]
  refine a_aload_n 1 dS_text_16 rfl rfl ?_
  refine a_geta (r := 1) dS_text_17 fl11_10 rfl ly_0 (by omega) (rf_0_0 hR) ?_
  refine a_iconstN (a := 0) dS_text_20 (by decide) ?_
  refine a_puti dS_text_21 fl11_77 rfl ly_1 (by omega) ?_
  rw [show m_up (m_row I 1 (va_up (I 1) 1 (nI 0))) 1 2 (nI 0) = (m_row I 1 (va_up (va_up (I 1) 1 (nI 0)) 2 (nI 0))) from (by rw [m_up_r])]
  refine a_aload_n 1 dS_text_24 rfl rfl ?_
  refine a_geta (r := 1) dS_text_25 fl11_10 rfl ly_0 (by omega) (rf_0_0 hR) ?_
  refine a_iconst (v := -1) dS_text_28 (by decide) ?_
  refine a_puti dS_text_29 fl11_80 rfl ly_1 (by omega) ?_
  rw [show m_up (m_row I 1 (va_up (va_up (I 1) 1 (nI 0)) 2 (nI 0))) 1 3 (-1) = (m_row I 1 (va_up (va_up (va_up (I 1) 1 (nI 0)) 2 (nI 0)) 3 (-1))) from (by rw [m_up_r])]
  refine a_aload_n 1 dS_text_32 rfl rfl ?_
  refine a_geta (r := 1) dS_text_33 fl11_10 rfl ly_0 (by omega) (rf_0_0 hR) ?_
  refine a_iload_n 2 dS_text_36 rfl rfl ?_
  refine a_iload_n 3 dS_text_37 rfl rfl ?_
  refine a_callV (Q' := m_res (some (.int 1)) (m_row I 1 (va_up (va_up (va_up (I 1) 1 (nI 0)) 2 (nI 0)) 3 (-1))) J R) (as := [.int (nI 0), .int (nI 1)]) (st := []) dS_text_38 ml11_83 rfl (Nat.le_of_ble_eq_true rfl) ly_1 rfl rfl (by decide) (by omega) (Nat.le_of_ble_eq_true rfl) rfl (Nat.le_refl _) (Nat.le_refl _) (by have q := c_may0o (S := S) (d := d + 7) (n := n) (I := (m_row I 1 (va_up (va_up (va_up (I 1) 1 (nI 0)) 2 (nI 0)) 3 (-1)))) (J := J) (R := R) hn hR (y := nI 1) (by decide); rw [show (m_row I 1 (va_up (va_up (va_up (I 1) 1 (nI 0)) 2 (nI 0)) 3 (-1))) 3 0 = I 3 0 from rfl, h1] at q; exact q) (m_go ?_)
  show AW _ _ _ _ _ _ _ _ [.int 1] _ _ _ _
  refine a_if_ne (tgt := 47) dS_text_41 (by decide) (fun _ => ?_) (fun c => False.elim (absurd c (by decide)))
  refine a_aload_n 1 dS_text_47 rfl rfl ?_
  refine a_geta (r := 40) dS_text_48 fl11_23 rfl ly_0 (by omega) (rf_0_2 hR) ?_
  refine a_iload_n 2 dS_text_51 rfl rfl ?_
  refine a_aload_n 1 dS_text_52 rfl rfl ?_
  refine a_geta (r := 1) dS_text_53 fl11_10 rfl ly_0 (by omega) (rf_0_0 hR) ?_
  refine a_geta (r := 2) dS_text_56 fl11_87 rfl ly_1 (by omega) (rf_1_0 hR) ?_
  refine a_iload_n 0 dS_text_59 rfl rfl ?_
  refine a_callV (Q' := rdQ (m_row I 1 (va_up (va_up (va_up (I 1) 1 (nI 0)) 2 (nI 0)) 3 (-1))) J R 0 (rdA (I 2) len 0 (len + 1) 0 (0, 0, -1, -1, Di))) (as := [.int (nI 0), .ref 2, .int (nI len)]) (st := []) dS_text_60 ml11_91 rfl (Nat.le_of_ble_eq_true rfl) ly_40 rfl rfl (by decide) (by omega) (Nat.le_of_ble_eq_true rfl) rfl (Nat.le_refl _) (Nat.le_refl _) (c_read (I := (m_row I 1 (va_up (va_up (va_up (I 1) 1 (nI 0)) 2 (nI 0)) 3 (-1)))) hn hR hl6 (by decide) hD) ?_
  intro v I2 J2 R2 ⟨e0, e1, e2, hf, g3, g4, hd⟩
  rw [e0, e1, e2]
  have hR2 : m_fin (m_up R 40 5 (some 2)) := fin_40 hR
  have i1 : I2 1 = va_up (va_up (va_up (I 1) 1 (nI 0)) 2 (nI 0)) 3 (-1) := hf 1 (by omega)
  have i3 : I2 3 = I 3 := hf 3 (by omega)
  refine a_mem (show I2 = m_row I2 1 (I2 1) from (m_row_self).symm) ?_
  show AW _ _ _ _ _ _ _ _ [] _ _ _ _
  obtain ⟨nl, nw, H⟩ := hd hf0
  refine a_aload_n 1 dS_text_63 rfl rfl ?_
  refine a_geta (r := 1) dS_text_64 fl11_10 rfl ly_0 (by omega) (rf_0_0 hR2) ?_
  refine a_aload_n 1 dS_text_67 rfl rfl ?_
  refine a_geta (r := 40) dS_text_68 fl11_23 rfl ly_0 (by omega) (rf_0_2 hR2) ?_
  refine a_geti dS_text_71 fl11_95 rfl ly_40 (by omega) ?_
  rw [show (m_row I2 1 (I2 1)) 40 3 = (nI 0) from (by rw [show m_row I2 1 _ 40 3 = I2 40 3 from rfl, g3, hf0])]
  refine a_puti dS_text_74 fl11_77 rfl ly_1 (by omega) ?_
  rw [show m_up (m_row I2 1 (I2 1)) 1 2 (nI 0) = (m_row I2 1 (va_up (I2 1) 2 (nI 0))) from (by rw [m_up_r])]
  refine a_aload_n 1 dS_text_77 rfl rfl ?_
  refine a_geta (r := 1) dS_text_78 fl11_10 rfl ly_0 (by omega) (rf_0_0 hR2) ?_
  refine a_aload_n 1 dS_text_81 rfl rfl ?_
  refine a_geta (r := 40) dS_text_82 fl11_23 rfl ly_0 (by omega) (rf_0_2 hR2) ?_
  refine a_geti dS_text_85 fl11_96 rfl ly_40 (by omega) ?_
  rw [show (m_row I2 1 (va_up (I2 1) 2 (nI 0))) 40 4 = (-1) from (g4.trans (if_pos hf0))]
  refine a_puti dS_text_88 fl11_80 rfl ly_1 (by omega) ?_
  rw [show m_up (m_row I2 1 (va_up (I2 1) 2 (nI 0))) 1 3 (-1) = (m_row I2 1 (va_up (va_up (I2 1) 2 (nI 0)) 3 (-1))) from (by rw [m_up_r])]
  refine a_aload_n 1 dS_text_91 rfl rfl ?_
  refine a_geta (r := 1) dS_text_92 fl11_10 rfl ly_0 (by omega) (rf_0_0 hR2) ?_
  refine a_geti dS_text_95 fl11_77 rfl ly_1 (by omega) ?_
  rw [show (m_row I2 1 (va_up (va_up (I2 1) 2 (nI 0)) 3 (-1))) 1 2 = (nI 0) from rfl]
  refine a_if_eq (tgt := 103) dS_text_98 (by decide) (fun _ => ?_) (fun c => False.elim (c rfl))
  refine a_aload_n 1 dS_text_103 rfl rfl ?_
  refine a_geta (r := 1) dS_text_104 fl11_10 rfl ly_0 (by omega) (rf_0_0 hR2) ?_
  refine a_iload_n 2 dS_text_107 rfl rfl ?_
  refine a_iload_n 3 dS_text_108 rfl rfl ?_
  refine a_aload_n 1 dS_text_109 rfl rfl ?_
  refine a_geta (r := 40) dS_text_110 fl11_23 rfl ly_0 (by omega) (rf_0_2 hR2) ?_
  refine a_callV (Q' := m_res (some (.int (nI 1))) (cpB (m_row I2 1 (va_up (va_up (I2 1) 2 (nI 0)) 3 (-1))) 41 14 cplOffice) J (m_up R 40 5 (some 2))) (as := [.int (nI 0), .int (nI 1), .ref 40]) (st := []) dS_text_113 ml11_97 rfl (Nat.le_of_ble_eq_true rfl) ly_1 rfl rfl (by decide) (by omega) (Nat.le_of_ble_eq_true rfl) rfl (Nat.le_refl _) (Nat.le_refl _) (c_take01o (I := (m_row I2 1 (va_up (va_up (I2 1) 2 (nI 0)) 3 (-1)))) hn hR2 (by show f_of (nI 1) (I2 3 0) = 1; rw [i3]; exact h1)) (m_go ?_)
  show AW _ _ _ _ _ _ _ _ [.int (nI 1)] _ _ _ _
  exact a_iret dS_text_116 rfl ⟨rfl, (cp_off (w := 9) (by unfold cpW; decide) (by omega)).trans (((m_row_eq).trans (txr_e i1))), (cp_off (w := 9) (by unfold cpW; decide) (by omega)).trans ((m_row_ne (by decide)).trans i3), fun a ha => (cp_off (w := 9) (by unfold cpW; decide) (by omega)).trans (((m_row_ne (by omega)).trans ((hf a (by omega)).trans (m_row_ne (by omega))))), ⟨nl, nw, OD_cp (OD_c H (fun a h1 h2 => m_row_ne (by omega)))⟩, KF.up40 (KF.refl hR)⟩
theorem q_S_text1nF {S : Nat × (Nat → Int32)} {d n : Nat} {I : mI} {J : mJ} {R : mR} (hn : 122 ≤ n) (hR : m_fin R) {len : Nat} (hlen : I 1 1 = nI len) (hl6 : len ≤ 600) (h : I 3 1 < nI 2) {Di : Nat → Int32} (hD : ∀ j, j < 121 → Di j = D0 1 j) (h5 : (rdA (I 2) len 1 (len + 1) 0 (0, 0, -1, -1, Di)).f < 5) (hf0 : ¬ (rdA (I 2) len 1 (len + 1) 0 (0, 0, -1, -1, Di)).f = 0) : AW S (d + 9) YS_text n n (txQ I R (-1) (nI (rdA (I 2) len 1 (len + 1) 0 (0, 0, -1, -1, Di)).f) (nI (rdA (I 2) len 1 (len + 1) 0 (0, 0, -1, -1, Di)).pl) (I 3) 40 0 (fun _ => True)) 0 [(0, .ref 0), (1, .int (nI 1)), (2, .int (-1))] [] I J R n := by
  refine a_mem (show I = m_row I 1 (I 1) from (m_row_self).symm) ?_
  refine a_aload_n 0 dS_text_0 rfl rfl ?_
  refine a_geta (r := 1) dS_text_1 fl11_10 rfl ly_0 (by omega) (rf_0_0 hR) ?_
  refine a_geti dS_text_4 fl11_69 rfl ly_1 (by omega) ?_
  rw [show (m_row I 1 (I 1)) 1 1 = (nI len) from hlen]
  refine a_istore_n (lv' := [(3, .int (nI len)), (0, .ref 0), (1, .int (nI 1)), (2, .int (-1))]) dS_text_7 rfl (by decide) rfl ?_
  refine a_aload_n 1 dS_text_8 rfl rfl ?_
  refine a_geta (r := 1) dS_text_9 fl11_10 rfl ly_0 (by omega) (rf_0_0 hR) ?_
  refine a_iconstN (a := 0) dS_text_12 (by decide) ?_
  refine a_puti dS_text_13 fl11_69 rfl ly_1 (by omega) ?_
  rw [show m_up (m_row I 1 (I 1)) 1 1 (nI 0) = (m_row I 1 (va_up (I 1) 1 (nI 0))) from (by rw [m_up_r])]
  refine a_aload_n 1 dS_text_16 rfl rfl ?_
  refine a_geta (r := 1) dS_text_17 fl11_10 rfl ly_0 (by omega) (rf_0_0 hR) ?_
  refine a_iconstN (a := 0) dS_text_20 (by decide) ?_
  refine a_puti dS_text_21 fl11_77 rfl ly_1 (by omega) ?_
  rw [show m_up (m_row I 1 (va_up (I 1) 1 (nI 0))) 1 2 (nI 0) = (m_row I 1 (va_up (va_up (I 1) 1 (nI 0)) 2 (nI 0))) from (by rw [m_up_r])]
  refine a_aload_n 1 dS_text_24 rfl rfl ?_
  refine a_geta (r := 1) dS_text_25 fl11_10 rfl ly_0 (by omega) (rf_0_0 hR) ?_
  refine a_iconst (v := -1) dS_text_28 (by decide) ?_
  refine a_puti dS_text_29 fl11_80 rfl ly_1 (by omega) ?_
  rw [show m_up (m_row I 1 (va_up (va_up (I 1) 1 (nI 0)) 2 (nI 0))) 1 3 (-1) = (m_row I 1 (va_up (va_up (va_up (I 1) 1 (nI 0)) 2 (nI 0)) 3 (-1))) from (by rw [m_up_r])]
  refine a_aload_n 1 dS_text_32 rfl rfl ?_
  refine a_geta (r := 1) dS_text_33 fl11_10 rfl ly_0 (by omega) (rf_0_0 hR) ?_
  refine a_iload_n 2 dS_text_36 rfl rfl ?_
  refine a_iload_n 3 dS_text_37 rfl rfl ?_
  refine a_callV (Q' := m_res (some (.int (nI 1))) (m_row I 1 (va_up (va_up (va_up (I 1) 1 (nI 0)) 2 (nI 0)) 3 (-1))) J R) (as := [.int (nI 1), .int (-1)]) (st := []) dS_text_38 ml11_83 rfl (Nat.le_of_ble_eq_true rfl) ly_1 rfl rfl (by decide) (by omega) (Nat.le_of_ble_eq_true rfl) rfl (Nat.le_refl _) (Nat.le_refl _) (c_may1n1 hn hR h) (m_go ?_)
  show AW _ _ _ _ _ _ _ _ [.int (nI 1)] _ _ _ _
  refine a_if_ne (tgt := 47) dS_text_41 (by decide) (fun _ => ?_) (fun c => False.elim (absurd c (by decide)))
  refine a_aload_n 1 dS_text_47 rfl rfl ?_
  refine a_geta (r := 40) dS_text_48 fl11_23 rfl ly_0 (by omega) (rf_0_2 hR) ?_
  refine a_iload_n 2 dS_text_51 rfl rfl ?_
  refine a_aload_n 1 dS_text_52 rfl rfl ?_
  refine a_geta (r := 1) dS_text_53 fl11_10 rfl ly_0 (by omega) (rf_0_0 hR) ?_
  refine a_geta (r := 2) dS_text_56 fl11_87 rfl ly_1 (by omega) (rf_1_0 hR) ?_
  refine a_iload_n 0 dS_text_59 rfl rfl ?_
  refine a_callV (Q' := rdQ (m_row I 1 (va_up (va_up (va_up (I 1) 1 (nI 0)) 2 (nI 0)) 3 (-1))) J R 1 (rdA (I 2) len 1 (len + 1) 0 (0, 0, -1, -1, Di))) (as := [.int (nI 1), .ref 2, .int (nI len)]) (st := []) dS_text_60 ml11_91 rfl (Nat.le_of_ble_eq_true rfl) ly_40 rfl rfl (by decide) (by omega) (Nat.le_of_ble_eq_true rfl) rfl (Nat.le_refl _) (Nat.le_refl _) (c_read (I := (m_row I 1 (va_up (va_up (va_up (I 1) 1 (nI 0)) 2 (nI 0)) 3 (-1)))) hn hR hl6 (by decide) hD) ?_
  intro v I2 J2 R2 ⟨e0, e1, e2, hf, g3, g4, hd⟩
  rw [e0, e1, e2]
  have hR2 : m_fin (m_up R 40 5 (some 2)) := fin_40 hR
  have i1 : I2 1 = va_up (va_up (va_up (I 1) 1 (nI 0)) 2 (nI 0)) 3 (-1) := hf 1 (by omega)
  have i3 : I2 3 = I 3 := hf 3 (by omega)
  refine a_mem (show I2 = m_row I2 1 (I2 1) from (m_row_self).symm) ?_
  show AW _ _ _ _ _ _ _ _ [] _ _ _ _
  have hz : ¬ nI (rdA (I 2) len 1 (len + 1) 0 (0, 0, -1, -1, Di)).f = 0 := fun q => hf0 (by rw [show (0 : Int32) = nI 0 from rfl, nI_eq (by have := h5; omega) (by decide)] at q; exact q)
  refine a_aload_n 1 dS_text_63 rfl rfl ?_
  refine a_geta (r := 1) dS_text_64 fl11_10 rfl ly_0 (by omega) (rf_0_0 hR2) ?_
  refine a_aload_n 1 dS_text_67 rfl rfl ?_
  refine a_geta (r := 40) dS_text_68 fl11_23 rfl ly_0 (by omega) (rf_0_2 hR2) ?_
  refine a_geti dS_text_71 fl11_95 rfl ly_40 (by omega) ?_
  rw [show (m_row I2 1 (I2 1)) 40 3 = (nI (rdA (I 2) len 1 (len + 1) 0 (0, 0, -1, -1, Di)).f) from g3]
  refine a_puti dS_text_74 fl11_77 rfl ly_1 (by omega) ?_
  rw [show m_up (m_row I2 1 (I2 1)) 1 2 (nI (rdA (I 2) len 1 (len + 1) 0 (0, 0, -1, -1, Di)).f) = (m_row I2 1 (va_up (I2 1) 2 (nI (rdA (I 2) len 1 (len + 1) 0 (0, 0, -1, -1, Di)).f))) from (by rw [m_up_r])]
  refine a_aload_n 1 dS_text_77 rfl rfl ?_
  refine a_geta (r := 1) dS_text_78 fl11_10 rfl ly_0 (by omega) (rf_0_0 hR2) ?_
  refine a_aload_n 1 dS_text_81 rfl rfl ?_
  refine a_geta (r := 40) dS_text_82 fl11_23 rfl ly_0 (by omega) (rf_0_2 hR2) ?_
  refine a_geti dS_text_85 fl11_96 rfl ly_40 (by omega) ?_
  rw [show (m_row I2 1 (va_up (I2 1) 2 (nI (rdA (I 2) len 1 (len + 1) 0 (0, 0, -1, -1, Di)).f))) 40 4 = (nI (rdA (I 2) len 1 (len + 1) 0 (0, 0, -1, -1, Di)).pl) from (g4.trans (if_neg hf0))]
  refine a_puti dS_text_88 fl11_80 rfl ly_1 (by omega) ?_
  rw [show m_up (m_row I2 1 (va_up (I2 1) 2 (nI (rdA (I 2) len 1 (len + 1) 0 (0, 0, -1, -1, Di)).f))) 1 3 (nI (rdA (I 2) len 1 (len + 1) 0 (0, 0, -1, -1, Di)).pl) = (m_row I2 1 (va_up (va_up (I2 1) 2 (nI (rdA (I 2) len 1 (len + 1) 0 (0, 0, -1, -1, Di)).f)) 3 (nI (rdA (I 2) len 1 (len + 1) 0 (0, 0, -1, -1, Di)).pl))) from (by rw [m_up_r])]
  refine a_aload_n 1 dS_text_91 rfl rfl ?_
  refine a_geta (r := 1) dS_text_92 fl11_10 rfl ly_0 (by omega) (rf_0_0 hR2) ?_
  refine a_geti dS_text_95 fl11_77 rfl ly_1 (by omega) ?_
  rw [show (m_row I2 1 (va_up (va_up (I2 1) 2 (nI (rdA (I 2) len 1 (len + 1) 0 (0, 0, -1, -1, Di)).f)) 3 (nI (rdA (I 2) len 1 (len + 1) 0 (0, 0, -1, -1, Di)).pl))) 1 2 = (nI (rdA (I 2) len 1 (len + 1) 0 (0, 0, -1, -1, Di)).f) from rfl]
  refine a_if_eq (tgt := 103) dS_text_98 (by decide) (fun c => False.elim (hz c)) (fun _ => ?_)
  refine a_iconst (v := -1) dS_text_101 (by decide) ?_
  exact a_iret dS_text_102 rfl ⟨rfl, (m_row_eq).trans (txr_e i1), i3, fun a ha => (m_row_ne (by omega)).trans ((hf a (by omega)).trans (m_row_ne (by omega))), trivial, KF.up40 (KF.refl hR)⟩
theorem q_S_text1n0 {S : Nat × (Nat → Int32)} {d n : Nat} {I : mI} {J : mJ} {R : mR} (hn : 122 ≤ n) (hR : m_fin R) {len : Nat} (hlen : I 1 1 = nI len) (hl6 : len ≤ 600) (h3 : I 3 1 = nI 0) {Di : Nat → Int32} (hD : ∀ j, j < 121 → Di j = D0 1 j) (hf0 : (rdA (I 2) len 1 (len + 1) 0 (0, 0, -1, -1, Di)).f = 0) : AW S (d + 9) YS_text n n (txQ I R (nI 0) (nI 0) (-1) (va_up (I 3) 1 (nI 1)) 24 27 (fun X => ∃ c, WD X 24 (rdA (I 2) len 1 (len + 1) 0 (0, 0, -1, -1, Di)).D c)) 0 [(0, .ref 0), (1, .int (nI 1)), (2, .int (-1))] [] I J R n := by
  refine a_mem (show I = m_row I 1 (I 1) from (m_row_self).symm) ?_
  refine a_aload_n 0 dS_text_0 rfl rfl ?_
  refine a_geta (r := 1) dS_text_1 fl11_10 rfl ly_0 (by omega) (rf_0_0 hR) ?_
  refine a_geti dS_text_4 fl11_69 rfl ly_1 (by omega) ?_
  rw [show (m_row I 1 (I 1)) 1 1 = (nI len) from hlen]
  refine a_istore_n (lv' := [(3, .int (nI len)), (0, .ref 0), (1, .int (nI 1)), (2, .int (-1))]) dS_text_7 rfl (by decide) rfl ?_
  refine a_aload_n 1 dS_text_8 rfl rfl ?_
  refine a_geta (r := 1) dS_text_9 fl11_10 rfl ly_0 (by omega) (rf_0_0 hR) ?_
  refine a_iconstN (a := 0) dS_text_12 (by decide) ?_
  refine a_puti dS_text_13 fl11_69 rfl ly_1 (by omega) ?_
  rw [show m_up (m_row I 1 (I 1)) 1 1 (nI 0) = (m_row I 1 (va_up (I 1) 1 (nI 0))) from (by rw [m_up_r])]
  refine a_aload_n 1 dS_text_16 rfl rfl ?_
  refine a_geta (r := 1) dS_text_17 fl11_10 rfl ly_0 (by omega) (rf_0_0 hR) ?_
  refine a_iconstN (a := 0) dS_text_20 (by decide) ?_
  refine a_puti dS_text_21 fl11_77 rfl ly_1 (by omega) ?_
  rw [show m_up (m_row I 1 (va_up (I 1) 1 (nI 0))) 1 2 (nI 0) = (m_row I 1 (va_up (va_up (I 1) 1 (nI 0)) 2 (nI 0))) from (by rw [m_up_r])]
  refine a_aload_n 1 dS_text_24 rfl rfl ?_
  refine a_geta (r := 1) dS_text_25 fl11_10 rfl ly_0 (by omega) (rf_0_0 hR) ?_
  refine a_iconst (v := -1) dS_text_28 (by decide) ?_
  refine a_puti dS_text_29 fl11_80 rfl ly_1 (by omega) ?_
  rw [show m_up (m_row I 1 (va_up (va_up (I 1) 1 (nI 0)) 2 (nI 0))) 1 3 (-1) = (m_row I 1 (va_up (va_up (va_up (I 1) 1 (nI 0)) 2 (nI 0)) 3 (-1))) from (by rw [m_up_r])]
  refine a_aload_n 1 dS_text_32 rfl rfl ?_
  refine a_geta (r := 1) dS_text_33 fl11_10 rfl ly_0 (by omega) (rf_0_0 hR) ?_
  refine a_iload_n 2 dS_text_36 rfl rfl ?_
  refine a_iload_n 3 dS_text_37 rfl rfl ?_
  refine a_callV (Q' := m_res (some (.int (nI 1))) (m_row I 1 (va_up (va_up (va_up (I 1) 1 (nI 0)) 2 (nI 0)) 3 (-1))) J R) (as := [.int (nI 1), .int (-1)]) (st := []) dS_text_38 ml11_83 rfl (Nat.le_of_ble_eq_true rfl) ly_1 rfl rfl (by decide) (by omega) (Nat.le_of_ble_eq_true rfl) rfl (Nat.le_refl _) (Nat.le_refl _) (c_may1n1 hn hR (by show I 3 1 < nI 2; rw [h3]; decide)) (m_go ?_)
  show AW _ _ _ _ _ _ _ _ [.int (nI 1)] _ _ _ _
  refine a_if_ne (tgt := 47) dS_text_41 (by decide) (fun _ => ?_) (fun c => False.elim (absurd c (by decide)))
  refine a_aload_n 1 dS_text_47 rfl rfl ?_
  refine a_geta (r := 40) dS_text_48 fl11_23 rfl ly_0 (by omega) (rf_0_2 hR) ?_
  refine a_iload_n 2 dS_text_51 rfl rfl ?_
  refine a_aload_n 1 dS_text_52 rfl rfl ?_
  refine a_geta (r := 1) dS_text_53 fl11_10 rfl ly_0 (by omega) (rf_0_0 hR) ?_
  refine a_geta (r := 2) dS_text_56 fl11_87 rfl ly_1 (by omega) (rf_1_0 hR) ?_
  refine a_iload_n 0 dS_text_59 rfl rfl ?_
  refine a_callV (Q' := rdQ (m_row I 1 (va_up (va_up (va_up (I 1) 1 (nI 0)) 2 (nI 0)) 3 (-1))) J R 1 (rdA (I 2) len 1 (len + 1) 0 (0, 0, -1, -1, Di))) (as := [.int (nI 1), .ref 2, .int (nI len)]) (st := []) dS_text_60 ml11_91 rfl (Nat.le_of_ble_eq_true rfl) ly_40 rfl rfl (by decide) (by omega) (Nat.le_of_ble_eq_true rfl) rfl (Nat.le_refl _) (Nat.le_refl _) (c_read (I := (m_row I 1 (va_up (va_up (va_up (I 1) 1 (nI 0)) 2 (nI 0)) 3 (-1)))) hn hR hl6 (by decide) hD) ?_
  intro v I2 J2 R2 ⟨e0, e1, e2, hf, g3, g4, hd⟩
  rw [e0, e1, e2]
  have hR2 : m_fin (m_up R 40 5 (some 2)) := fin_40 hR
  have i1 : I2 1 = va_up (va_up (va_up (I 1) 1 (nI 0)) 2 (nI 0)) 3 (-1) := hf 1 (by omega)
  have i3 : I2 3 = I 3 := hf 3 (by omega)
  refine a_mem (show I2 = m_row I2 1 (I2 1) from (m_row_self).symm) ?_
  show AW _ _ _ _ _ _ _ _ [] _ _ _ _
  obtain ⟨c, H⟩ := hd hf0
  refine a_aload_n 1 dS_text_63 rfl rfl ?_
  refine a_geta (r := 1) dS_text_64 fl11_10 rfl ly_0 (by omega) (rf_0_0 hR2) ?_
  refine a_aload_n 1 dS_text_67 rfl rfl ?_
  refine a_geta (r := 40) dS_text_68 fl11_23 rfl ly_0 (by omega) (rf_0_2 hR2) ?_
  refine a_geti dS_text_71 fl11_95 rfl ly_40 (by omega) ?_
  rw [show (m_row I2 1 (I2 1)) 40 3 = (nI 0) from (by rw [show m_row I2 1 _ 40 3 = I2 40 3 from rfl, g3, hf0])]
  refine a_puti dS_text_74 fl11_77 rfl ly_1 (by omega) ?_
  rw [show m_up (m_row I2 1 (I2 1)) 1 2 (nI 0) = (m_row I2 1 (va_up (I2 1) 2 (nI 0))) from (by rw [m_up_r])]
  refine a_aload_n 1 dS_text_77 rfl rfl ?_
  refine a_geta (r := 1) dS_text_78 fl11_10 rfl ly_0 (by omega) (rf_0_0 hR2) ?_
  refine a_aload_n 1 dS_text_81 rfl rfl ?_
  refine a_geta (r := 40) dS_text_82 fl11_23 rfl ly_0 (by omega) (rf_0_2 hR2) ?_
  refine a_geti dS_text_85 fl11_96 rfl ly_40 (by omega) ?_
  rw [show (m_row I2 1 (va_up (I2 1) 2 (nI 0))) 40 4 = (-1) from (g4.trans (if_pos hf0))]
  refine a_puti dS_text_88 fl11_80 rfl ly_1 (by omega) ?_
  rw [show m_up (m_row I2 1 (va_up (I2 1) 2 (nI 0))) 1 3 (-1) = (m_row I2 1 (va_up (va_up (I2 1) 2 (nI 0)) 3 (-1))) from (by rw [m_up_r])]
  refine a_aload_n 1 dS_text_91 rfl rfl ?_
  refine a_geta (r := 1) dS_text_92 fl11_10 rfl ly_0 (by omega) (rf_0_0 hR2) ?_
  refine a_geti dS_text_95 fl11_77 rfl ly_1 (by omega) ?_
  rw [show (m_row I2 1 (va_up (va_up (I2 1) 2 (nI 0)) 3 (-1))) 1 2 = (nI 0) from rfl]
  refine a_if_eq (tgt := 103) dS_text_98 (by decide) (fun _ => ?_) (fun c => False.elim (c rfl))
  refine a_aload_n 1 dS_text_103 rfl rfl ?_
  refine a_geta (r := 1) dS_text_104 fl11_10 rfl ly_0 (by omega) (rf_0_0 hR2) ?_
  refine a_iload_n 2 dS_text_107 rfl rfl ?_
  refine a_iload_n 3 dS_text_108 rfl rfl ?_
  refine a_aload_n 1 dS_text_109 rfl rfl ?_
  refine a_geta (r := 40) dS_text_110 fl11_23 rfl ly_0 (by omega) (rf_0_2 hR2) ?_
  refine a_callV (Q' := m_res (some (.int (nI 0))) (cpB (m_up (m_row I2 1 (va_up (va_up (I2 1) 2 (nI 0)) 3 (-1))) 3 1 (nI 1)) 50 24 cplWeek) J (m_up R 40 5 (some 2))) (as := [.int (nI 1), .int (-1), .ref 40]) (st := []) dS_text_113 ml11_97 rfl (Nat.le_of_ble_eq_true rfl) ly_1 rfl rfl (by decide) (by omega) (Nat.le_of_ble_eq_true rfl) rfl (Nat.le_refl _) (Nat.le_refl _) (c_take10n (I := (m_row I2 1 (va_up (va_up (I2 1) 2 (nI 0)) 3 (-1)))) hn hR2 (by show I2 3 1 = nI 0; rw [i3]; exact h3)) (m_go ?_)
  show AW _ _ _ _ _ _ _ _ [.int (nI 0)] _ _ _ _
  exact a_iret dS_text_116 rfl ⟨rfl, (cp_off (w := 4) (by unfold cpW; decide) (by omega)).trans ((m_up_ne (by decide)).trans ((m_row_eq).trans (txr_e i1))), (cp_off (w := 4) (by unfold cpW; decide) (by omega)).trans ((m_up_eq).trans (by rw [show (m_row I2 1 (va_up (va_up (I2 1) 2 (nI 0)) 3 (-1))) 3 = I2 3 from rfl, i3])), fun a ha => (cp_off (w := 4) (by unfold cpW; decide) (by omega)).trans ((m_up_ne (by omega)).trans ((m_row_ne (by omega)).trans ((hf a (by omega)).trans (m_row_ne (by omega))))), ⟨c, WD_cp (WD_c H (fun a h1 h2 => (m_up_ne (by omega)).trans (m_row_ne (by omega))))⟩, KF.up40 (KF.refl hR)⟩
theorem q_S_text1n1 {S : Nat × (Nat → Int32)} {d n : Nat} {I : mI} {J : mJ} {R : mR} (hn : 122 ≤ n) (hR : m_fin R) {len : Nat} (hlen : I 1 1 = nI len) (hl6 : len ≤ 600) (h3 : I 3 1 = nI 1) {Di : Nat → Int32} (hD : ∀ j, j < 121 → Di j = D0 1 j) (hf0 : (rdA (I 2) len 1 (len + 1) 0 (0, 0, -1, -1, Di)).f = 0) : AW S (d + 9) YS_text n n (txQ I R (nI 1) (nI 0) (-1) (va_up (I 3) 1 (nI 2)) 28 31 (fun X => ∃ c, WD X 28 (rdA (I 2) len 1 (len + 1) 0 (0, 0, -1, -1, Di)).D c)) 0 [(0, .ref 0), (1, .int (nI 1)), (2, .int (-1))] [] I J R n := by
  refine a_mem (show I = m_row I 1 (I 1) from (m_row_self).symm) ?_
  refine a_aload_n 0 dS_text_0 rfl rfl ?_
  refine a_geta (r := 1) dS_text_1 fl11_10 rfl ly_0 (by omega) (rf_0_0 hR) ?_
  refine a_geti dS_text_4 fl11_69 rfl ly_1 (by omega) ?_
  rw [show (m_row I 1 (I 1)) 1 1 = (nI len) from hlen]
  refine a_istore_n (lv' := [(3, .int (nI len)), (0, .ref 0), (1, .int (nI 1)), (2, .int (-1))]) dS_text_7 rfl (by decide) rfl ?_
  refine a_aload_n 1 dS_text_8 rfl rfl ?_
  refine a_geta (r := 1) dS_text_9 fl11_10 rfl ly_0 (by omega) (rf_0_0 hR) ?_
  refine a_iconstN (a := 0) dS_text_12 (by decide) ?_
  refine a_puti dS_text_13 fl11_69 rfl ly_1 (by omega) ?_
  rw [show m_up (m_row I 1 (I 1)) 1 1 (nI 0) = (m_row I 1 (va_up (I 1) 1 (nI 0))) from (by rw [m_up_r])]
  refine a_aload_n 1 dS_text_16 rfl rfl ?_
  refine a_geta (r := 1) dS_text_17 fl11_10 rfl ly_0 (by omega) (rf_0_0 hR) ?_
  refine a_iconstN (a := 0) dS_text_20 (by decide) ?_
  refine a_puti dS_text_21 fl11_77 rfl ly_1 (by omega) ?_
  rw [show m_up (m_row I 1 (va_up (I 1) 1 (nI 0))) 1 2 (nI 0) = (m_row I 1 (va_up (va_up (I 1) 1 (nI 0)) 2 (nI 0))) from (by rw [m_up_r])]
  refine a_aload_n 1 dS_text_24 rfl rfl ?_
  refine a_geta (r := 1) dS_text_25 fl11_10 rfl ly_0 (by omega) (rf_0_0 hR) ?_
  refine a_iconst (v := -1) dS_text_28 (by decide) ?_
  refine a_puti dS_text_29 fl11_80 rfl ly_1 (by omega) ?_
  rw [show m_up (m_row I 1 (va_up (va_up (I 1) 1 (nI 0)) 2 (nI 0))) 1 3 (-1) = (m_row I 1 (va_up (va_up (va_up (I 1) 1 (nI 0)) 2 (nI 0)) 3 (-1))) from (by rw [m_up_r])]
  refine a_aload_n 1 dS_text_32 rfl rfl ?_
  refine a_geta (r := 1) dS_text_33 fl11_10 rfl ly_0 (by omega) (rf_0_0 hR) ?_
  refine a_iload_n 2 dS_text_36 rfl rfl ?_
  refine a_iload_n 3 dS_text_37 rfl rfl ?_
  refine a_callV (Q' := m_res (some (.int (nI 1))) (m_row I 1 (va_up (va_up (va_up (I 1) 1 (nI 0)) 2 (nI 0)) 3 (-1))) J R) (as := [.int (nI 1), .int (-1)]) (st := []) dS_text_38 ml11_83 rfl (Nat.le_of_ble_eq_true rfl) ly_1 rfl rfl (by decide) (by omega) (Nat.le_of_ble_eq_true rfl) rfl (Nat.le_refl _) (Nat.le_refl _) (c_may1n1 hn hR (by show I 3 1 < nI 2; rw [h3]; decide)) (m_go ?_)
  show AW _ _ _ _ _ _ _ _ [.int (nI 1)] _ _ _ _
  refine a_if_ne (tgt := 47) dS_text_41 (by decide) (fun _ => ?_) (fun c => False.elim (absurd c (by decide)))
  refine a_aload_n 1 dS_text_47 rfl rfl ?_
  refine a_geta (r := 40) dS_text_48 fl11_23 rfl ly_0 (by omega) (rf_0_2 hR) ?_
  refine a_iload_n 2 dS_text_51 rfl rfl ?_
  refine a_aload_n 1 dS_text_52 rfl rfl ?_
  refine a_geta (r := 1) dS_text_53 fl11_10 rfl ly_0 (by omega) (rf_0_0 hR) ?_
  refine a_geta (r := 2) dS_text_56 fl11_87 rfl ly_1 (by omega) (rf_1_0 hR) ?_
  refine a_iload_n 0 dS_text_59 rfl rfl ?_
  refine a_callV (Q' := rdQ (m_row I 1 (va_up (va_up (va_up (I 1) 1 (nI 0)) 2 (nI 0)) 3 (-1))) J R 1 (rdA (I 2) len 1 (len + 1) 0 (0, 0, -1, -1, Di))) (as := [.int (nI 1), .ref 2, .int (nI len)]) (st := []) dS_text_60 ml11_91 rfl (Nat.le_of_ble_eq_true rfl) ly_40 rfl rfl (by decide) (by omega) (Nat.le_of_ble_eq_true rfl) rfl (Nat.le_refl _) (Nat.le_refl _) (c_read (I := (m_row I 1 (va_up (va_up (va_up (I 1) 1 (nI 0)) 2 (nI 0)) 3 (-1)))) hn hR hl6 (by decide) hD) ?_
  intro v I2 J2 R2 ⟨e0, e1, e2, hf, g3, g4, hd⟩
  rw [e0, e1, e2]
  have hR2 : m_fin (m_up R 40 5 (some 2)) := fin_40 hR
  have i1 : I2 1 = va_up (va_up (va_up (I 1) 1 (nI 0)) 2 (nI 0)) 3 (-1) := hf 1 (by omega)
  have i3 : I2 3 = I 3 := hf 3 (by omega)
  refine a_mem (show I2 = m_row I2 1 (I2 1) from (m_row_self).symm) ?_
  show AW _ _ _ _ _ _ _ _ [] _ _ _ _
  obtain ⟨c, H⟩ := hd hf0
  refine a_aload_n 1 dS_text_63 rfl rfl ?_
  refine a_geta (r := 1) dS_text_64 fl11_10 rfl ly_0 (by omega) (rf_0_0 hR2) ?_
  refine a_aload_n 1 dS_text_67 rfl rfl ?_
  refine a_geta (r := 40) dS_text_68 fl11_23 rfl ly_0 (by omega) (rf_0_2 hR2) ?_
  refine a_geti dS_text_71 fl11_95 rfl ly_40 (by omega) ?_
  rw [show (m_row I2 1 (I2 1)) 40 3 = (nI 0) from (by rw [show m_row I2 1 _ 40 3 = I2 40 3 from rfl, g3, hf0])]
  refine a_puti dS_text_74 fl11_77 rfl ly_1 (by omega) ?_
  rw [show m_up (m_row I2 1 (I2 1)) 1 2 (nI 0) = (m_row I2 1 (va_up (I2 1) 2 (nI 0))) from (by rw [m_up_r])]
  refine a_aload_n 1 dS_text_77 rfl rfl ?_
  refine a_geta (r := 1) dS_text_78 fl11_10 rfl ly_0 (by omega) (rf_0_0 hR2) ?_
  refine a_aload_n 1 dS_text_81 rfl rfl ?_
  refine a_geta (r := 40) dS_text_82 fl11_23 rfl ly_0 (by omega) (rf_0_2 hR2) ?_
  refine a_geti dS_text_85 fl11_96 rfl ly_40 (by omega) ?_
  rw [show (m_row I2 1 (va_up (I2 1) 2 (nI 0))) 40 4 = (-1) from (g4.trans (if_pos hf0))]
  refine a_puti dS_text_88 fl11_80 rfl ly_1 (by omega) ?_
  rw [show m_up (m_row I2 1 (va_up (I2 1) 2 (nI 0))) 1 3 (-1) = (m_row I2 1 (va_up (va_up (I2 1) 2 (nI 0)) 3 (-1))) from (by rw [m_up_r])]
  refine a_aload_n 1 dS_text_91 rfl rfl ?_
  refine a_geta (r := 1) dS_text_92 fl11_10 rfl ly_0 (by omega) (rf_0_0 hR2) ?_
  refine a_geti dS_text_95 fl11_77 rfl ly_1 (by omega) ?_
  rw [show (m_row I2 1 (va_up (va_up (I2 1) 2 (nI 0)) 3 (-1))) 1 2 = (nI 0) from rfl]
  refine a_if_eq (tgt := 103) dS_text_98 (by decide) (fun _ => ?_) (fun c => False.elim (c rfl))
  refine a_aload_n 1 dS_text_103 rfl rfl ?_
  refine a_geta (r := 1) dS_text_104 fl11_10 rfl ly_0 (by omega) (rf_0_0 hR2) ?_
  refine a_iload_n 2 dS_text_107 rfl rfl ?_
  refine a_iload_n 3 dS_text_108 rfl rfl ?_
  refine a_aload_n 1 dS_text_109 rfl rfl ?_
  refine a_geta (r := 40) dS_text_110 fl11_23 rfl ly_0 (by omega) (rf_0_2 hR2) ?_
  refine a_callV (Q' := m_res (some (.int (nI 1))) (cpB (m_up (m_row I2 1 (va_up (va_up (I2 1) 2 (nI 0)) 3 (-1))) 3 1 (nI 2)) 50 28 cplWeek) J (m_up R 40 5 (some 2))) (as := [.int (nI 1), .int (-1), .ref 40]) (st := []) dS_text_113 ml11_97 rfl (Nat.le_of_ble_eq_true rfl) ly_1 rfl rfl (by decide) (by omega) (Nat.le_of_ble_eq_true rfl) rfl (Nat.le_refl _) (Nat.le_refl _) (c_take11n (I := (m_row I2 1 (va_up (va_up (I2 1) 2 (nI 0)) 3 (-1)))) hn hR2 (by show I2 3 1 = nI 1; rw [i3]; exact h3)) (m_go ?_)
  show AW _ _ _ _ _ _ _ _ [.int (nI 1)] _ _ _ _
  exact a_iret dS_text_116 rfl ⟨rfl, (cp_off (w := 4) (by unfold cpW; decide) (by omega)).trans ((m_up_ne (by decide)).trans ((m_row_eq).trans (txr_e i1))), (cp_off (w := 4) (by unfold cpW; decide) (by omega)).trans ((m_up_eq).trans (by rw [show (m_row I2 1 (va_up (va_up (I2 1) 2 (nI 0)) 3 (-1))) 3 = I2 3 from rfl, i3])), fun a ha => (cp_off (w := 4) (by unfold cpW; decide) (by omega)).trans ((m_up_ne (by omega)).trans ((m_row_ne (by omega)).trans ((hf a (by omega)).trans (m_row_ne (by omega))))), ⟨c, WD_cp (WD_c H (fun a h1 h2 => (m_up_ne (by omega)).trans (m_row_ne (by omega))))⟩, KF.up40 (KF.refl hR)⟩
theorem q_S_text1oF {S : Nat × (Nat → Int32)} {d n : Nat} {I : mI} {J : mJ} {R : mR} (hn : 122 ≤ n) (hR : m_fin R) {len : Nat} (hlen : I 1 1 = nI len) (hl6 : len ≤ 600) {y : Int32} (hy : ¬ y = -1) (h : f_of y (I 3 1) = 1) {Di : Nat → Int32} (hD : ∀ j, j < 121 → Di j = D0 1 j) (h5 : (rdA (I 2) len 1 (len + 1) 0 (0, 0, -1, -1, Di)).f < 5) (hf0 : ¬ (rdA (I 2) len 1 (len + 1) 0 (0, 0, -1, -1, Di)).f = 0) : AW S (d + 9) YS_text n n (txQ I R (-1) (nI (rdA (I 2) len 1 (len + 1) 0 (0, 0, -1, -1, Di)).f) (nI (rdA (I 2) len 1 (len + 1) 0 (0, 0, -1, -1, Di)).pl) (I 3) 40 0 (fun _ => True)) 0 [(0, .ref 0), (1, .int (nI 1)), (2, .int y)] [] I J R n := by
  refine a_mem (show I = m_row I 1 (I 1) from (m_row_self).symm) ?_
  refine a_aload_n 0 dS_text_0 rfl rfl ?_
  refine a_geta (r := 1) dS_text_1 fl11_10 rfl ly_0 (by omega) (rf_0_0 hR) ?_
  refine a_geti dS_text_4 fl11_69 rfl ly_1 (by omega) ?_
  rw [show (m_row I 1 (I 1)) 1 1 = (nI len) from hlen]
  refine a_istore_n (lv' := [(3, .int (nI len)), (0, .ref 0), (1, .int (nI 1)), (2, .int y)]) dS_text_7 rfl (by decide) rfl ?_
  refine a_aload_n 1 dS_text_8 rfl rfl ?_
  refine a_geta (r := 1) dS_text_9 fl11_10 rfl ly_0 (by omega) (rf_0_0 hR) ?_
  refine a_iconstN (a := 0) dS_text_12 (by decide) ?_
  refine a_puti dS_text_13 fl11_69 rfl ly_1 (by omega) ?_
  rw [show m_up (m_row I 1 (I 1)) 1 1 (nI 0) = (m_row I 1 (va_up (I 1) 1 (nI 0))) from (by rw [m_up_r])]
  refine a_aload_n 1 dS_text_16 rfl rfl ?_
  refine a_geta (r := 1) dS_text_17 fl11_10 rfl ly_0 (by omega) (rf_0_0 hR) ?_
  refine a_iconstN (a := 0) dS_text_20 (by decide) ?_
  refine a_puti dS_text_21 fl11_77 rfl ly_1 (by omega) ?_
  rw [show m_up (m_row I 1 (va_up (I 1) 1 (nI 0))) 1 2 (nI 0) = (m_row I 1 (va_up (va_up (I 1) 1 (nI 0)) 2 (nI 0))) from (by rw [m_up_r])]
  refine a_aload_n 1 dS_text_24 rfl rfl ?_
  refine a_geta (r := 1) dS_text_25 fl11_10 rfl ly_0 (by omega) (rf_0_0 hR) ?_
  refine a_iconst (v := -1) dS_text_28 (by decide) ?_
  refine a_puti dS_text_29 fl11_80 rfl ly_1 (by omega) ?_
  rw [show m_up (m_row I 1 (va_up (va_up (I 1) 1 (nI 0)) 2 (nI 0))) 1 3 (-1) = (m_row I 1 (va_up (va_up (va_up (I 1) 1 (nI 0)) 2 (nI 0)) 3 (-1))) from (by rw [m_up_r])]
  refine a_aload_n 1 dS_text_32 rfl rfl ?_
  refine a_geta (r := 1) dS_text_33 fl11_10 rfl ly_0 (by omega) (rf_0_0 hR) ?_
  refine a_iload_n 2 dS_text_36 rfl rfl ?_
  refine a_iload_n 3 dS_text_37 rfl rfl ?_
  refine a_callV (Q' := m_res (some (.int 1)) (m_row I 1 (va_up (va_up (va_up (I 1) 1 (nI 0)) 2 (nI 0)) 3 (-1))) J R) (as := [.int (nI 1), .int y]) (st := []) dS_text_38 ml11_83 rfl (Nat.le_of_ble_eq_true rfl) ly_1 rfl rfl (by decide) (by omega) (Nat.le_of_ble_eq_true rfl) rfl (Nat.le_refl _) (Nat.le_refl _) (by have q := c_may1o (S := S) (d := d + 7) (n := n) (I := (m_row I 1 (va_up (va_up (va_up (I 1) 1 (nI 0)) 2 (nI 0)) 3 (-1)))) (J := J) (R := R) hn hR (y := y) hy; rw [show (m_row I 1 (va_up (va_up (va_up (I 1) 1 (nI 0)) 2 (nI 0)) 3 (-1))) 3 1 = I 3 1 from rfl, h] at q; exact q) (m_go ?_)
  show AW _ _ _ _ _ _ _ _ [.int 1] _ _ _ _
  refine a_if_ne (tgt := 47) dS_text_41 (by decide) (fun _ => ?_) (fun c => False.elim (absurd c (by decide)))
  refine a_aload_n 1 dS_text_47 rfl rfl ?_
  refine a_geta (r := 40) dS_text_48 fl11_23 rfl ly_0 (by omega) (rf_0_2 hR) ?_
  refine a_iload_n 2 dS_text_51 rfl rfl ?_
  refine a_aload_n 1 dS_text_52 rfl rfl ?_
  refine a_geta (r := 1) dS_text_53 fl11_10 rfl ly_0 (by omega) (rf_0_0 hR) ?_
  refine a_geta (r := 2) dS_text_56 fl11_87 rfl ly_1 (by omega) (rf_1_0 hR) ?_
  refine a_iload_n 0 dS_text_59 rfl rfl ?_
  refine a_callV (Q' := rdQ (m_row I 1 (va_up (va_up (va_up (I 1) 1 (nI 0)) 2 (nI 0)) 3 (-1))) J R 1 (rdA (I 2) len 1 (len + 1) 0 (0, 0, -1, -1, Di))) (as := [.int (nI 1), .ref 2, .int (nI len)]) (st := []) dS_text_60 ml11_91 rfl (Nat.le_of_ble_eq_true rfl) ly_40 rfl rfl (by decide) (by omega) (Nat.le_of_ble_eq_true rfl) rfl (Nat.le_refl _) (Nat.le_refl _) (c_read (I := (m_row I 1 (va_up (va_up (va_up (I 1) 1 (nI 0)) 2 (nI 0)) 3 (-1)))) hn hR hl6 (by decide) hD) ?_
  intro v I2 J2 R2 ⟨e0, e1, e2, hf, g3, g4, hd⟩
  rw [e0, e1, e2]
  have hR2 : m_fin (m_up R 40 5 (some 2)) := fin_40 hR
  have i1 : I2 1 = va_up (va_up (va_up (I 1) 1 (nI 0)) 2 (nI 0)) 3 (-1) := hf 1 (by omega)
  have i3 : I2 3 = I 3 := hf 3 (by omega)
  refine a_mem (show I2 = m_row I2 1 (I2 1) from (m_row_self).symm) ?_
  show AW _ _ _ _ _ _ _ _ [] _ _ _ _
  have hz : ¬ nI (rdA (I 2) len 1 (len + 1) 0 (0, 0, -1, -1, Di)).f = 0 := fun q => hf0 (by rw [show (0 : Int32) = nI 0 from rfl, nI_eq (by have := h5; omega) (by decide)] at q; exact q)
  refine a_aload_n 1 dS_text_63 rfl rfl ?_
  refine a_geta (r := 1) dS_text_64 fl11_10 rfl ly_0 (by omega) (rf_0_0 hR2) ?_
  refine a_aload_n 1 dS_text_67 rfl rfl ?_
  refine a_geta (r := 40) dS_text_68 fl11_23 rfl ly_0 (by omega) (rf_0_2 hR2) ?_
  refine a_geti dS_text_71 fl11_95 rfl ly_40 (by omega) ?_
  rw [show (m_row I2 1 (I2 1)) 40 3 = (nI (rdA (I 2) len 1 (len + 1) 0 (0, 0, -1, -1, Di)).f) from g3]
  refine a_puti dS_text_74 fl11_77 rfl ly_1 (by omega) ?_
  rw [show m_up (m_row I2 1 (I2 1)) 1 2 (nI (rdA (I 2) len 1 (len + 1) 0 (0, 0, -1, -1, Di)).f) = (m_row I2 1 (va_up (I2 1) 2 (nI (rdA (I 2) len 1 (len + 1) 0 (0, 0, -1, -1, Di)).f))) from (by rw [m_up_r])]
  refine a_aload_n 1 dS_text_77 rfl rfl ?_
  refine a_geta (r := 1) dS_text_78 fl11_10 rfl ly_0 (by omega) (rf_0_0 hR2) ?_
  refine a_aload_n 1 dS_text_81 rfl rfl ?_
  refine a_geta (r := 40) dS_text_82 fl11_23 rfl ly_0 (by omega) (rf_0_2 hR2) ?_
  refine a_geti dS_text_85 fl11_96 rfl ly_40 (by omega) ?_
  rw [show (m_row I2 1 (va_up (I2 1) 2 (nI (rdA (I 2) len 1 (len + 1) 0 (0, 0, -1, -1, Di)).f))) 40 4 = (nI (rdA (I 2) len 1 (len + 1) 0 (0, 0, -1, -1, Di)).pl) from (g4.trans (if_neg hf0))]
  refine a_puti dS_text_88 fl11_80 rfl ly_1 (by omega) ?_
  rw [show m_up (m_row I2 1 (va_up (I2 1) 2 (nI (rdA (I 2) len 1 (len + 1) 0 (0, 0, -1, -1, Di)).f))) 1 3 (nI (rdA (I 2) len 1 (len + 1) 0 (0, 0, -1, -1, Di)).pl) = (m_row I2 1 (va_up (va_up (I2 1) 2 (nI (rdA (I 2) len 1 (len + 1) 0 (0, 0, -1, -1, Di)).f)) 3 (nI (rdA (I 2) len 1 (len + 1) 0 (0, 0, -1, -1, Di)).pl))) from (by rw [m_up_r])]
  refine a_aload_n 1 dS_text_91 rfl rfl ?_
  refine a_geta (r := 1) dS_text_92 fl11_10 rfl ly_0 (by omega) (rf_0_0 hR2) ?_
  refine a_geti dS_text_95 fl11_77 rfl ly_1 (by omega) ?_
  rw [show (m_row I2 1 (va_up (va_up (I2 1) 2 (nI (rdA (I 2) len 1 (len + 1) 0 (0, 0, -1, -1, Di)).f)) 3 (nI (rdA (I 2) len 1 (len + 1) 0 (0, 0, -1, -1, Di)).pl))) 1 2 = (nI (rdA (I 2) len 1 (len + 1) 0 (0, 0, -1, -1, Di)).f) from rfl]
  refine a_if_eq (tgt := 103) dS_text_98 (by decide) (fun c => False.elim (hz c)) (fun _ => ?_)
  refine a_iconst (v := -1) dS_text_101 (by decide) ?_
  exact a_iret dS_text_102 rfl ⟨rfl, (m_row_eq).trans (txr_e i1), i3, fun a ha => (m_row_ne (by omega)).trans ((hf a (by omega)).trans (m_row_ne (by omega))), trivial, KF.up40 (KF.refl hR)⟩
theorem q_S_text1o0 {S : Nat × (Nat → Int32)} {d n : Nat} {I : mI} {J : mJ} {R : mR} (hn : 122 ≤ n) (hR : m_fin R) {len : Nat} (hlen : I 1 1 = nI len) (hl6 : len ≤ 600) (h1 : f_of (nI 0) (I 3 1) = 1) {Di : Nat → Int32} (hD : ∀ j, j < 121 → Di j = D0 1 j) (hf0 : (rdA (I 2) len 1 (len + 1) 0 (0, 0, -1, -1, Di)).f = 0) : AW S (d + 9) YS_text n n (txQ I R (nI 0) (nI 0) (-1) (I 3) 24 27 (fun X => ∃ c, WD X 24 (rdA (I 2) len 1 (len + 1) 0 (0, 0, -1, -1, Di)).D c)) 0 [(0, .ref 0), (1, .int (nI 1)), (2, .int (nI 0))] [] I J R n := by
  refine a_mem (show I = m_row I 1 (I 1) from (m_row_self).symm) ?_
  refine a_aload_n 0 dS_text_0 rfl rfl ?_
  refine a_geta (r := 1) dS_text_1 fl11_10 rfl ly_0 (by omega) (rf_0_0 hR) ?_
  refine a_geti dS_text_4 fl11_69 rfl ly_1 (by omega) ?_
  rw [show (m_row I 1 (I 1)) 1 1 = (nI len) from hlen]
  refine a_istore_n (lv' := [(3, .int (nI len)), (0, .ref 0), (1, .int (nI 1)), (2, .int (nI 0))]) dS_text_7 rfl (by decide) rfl ?_
  refine a_aload_n 1 dS_text_8 rfl rfl ?_
  refine a_geta (r := 1) dS_text_9 fl11_10 rfl ly_0 (by omega) (rf_0_0 hR) ?_
  refine a_iconstN (a := 0) dS_text_12 (by decide) ?_
  refine a_puti dS_text_13 fl11_69 rfl ly_1 (by omega) ?_
  rw [show m_up (m_row I 1 (I 1)) 1 1 (nI 0) = (m_row I 1 (va_up (I 1) 1 (nI 0))) from (by rw [m_up_r])]
  refine a_aload_n 1 dS_text_16 rfl rfl ?_
  refine a_geta (r := 1) dS_text_17 fl11_10 rfl ly_0 (by omega) (rf_0_0 hR) ?_
  refine a_iconstN (a := 0) dS_text_20 (by decide) ?_
  refine a_puti dS_text_21 fl11_77 rfl ly_1 (by omega) ?_
  rw [show m_up (m_row I 1 (va_up (I 1) 1 (nI 0))) 1 2 (nI 0) = (m_row I 1 (va_up (va_up (I 1) 1 (nI 0)) 2 (nI 0))) from (by rw [m_up_r])]
  refine a_aload_n 1 dS_text_24 rfl rfl ?_
  refine a_geta (r := 1) dS_text_25 fl11_10 rfl ly_0 (by omega) (rf_0_0 hR) ?_
  refine a_iconst (v := -1) dS_text_28 (by decide) ?_
  refine a_puti dS_text_29 fl11_80 rfl ly_1 (by omega) ?_
  rw [show m_up (m_row I 1 (va_up (va_up (I 1) 1 (nI 0)) 2 (nI 0))) 1 3 (-1) = (m_row I 1 (va_up (va_up (va_up (I 1) 1 (nI 0)) 2 (nI 0)) 3 (-1))) from (by rw [m_up_r])]
  refine a_aload_n 1 dS_text_32 rfl rfl ?_
  refine a_geta (r := 1) dS_text_33 fl11_10 rfl ly_0 (by omega) (rf_0_0 hR) ?_
  refine a_iload_n 2 dS_text_36 rfl rfl ?_
  refine a_iload_n 3 dS_text_37 rfl rfl ?_
  refine a_callV (Q' := m_res (some (.int 1)) (m_row I 1 (va_up (va_up (va_up (I 1) 1 (nI 0)) 2 (nI 0)) 3 (-1))) J R) (as := [.int (nI 1), .int (nI 0)]) (st := []) dS_text_38 ml11_83 rfl (Nat.le_of_ble_eq_true rfl) ly_1 rfl rfl (by decide) (by omega) (Nat.le_of_ble_eq_true rfl) rfl (Nat.le_refl _) (Nat.le_refl _) (by have q := c_may1o (S := S) (d := d + 7) (n := n) (I := (m_row I 1 (va_up (va_up (va_up (I 1) 1 (nI 0)) 2 (nI 0)) 3 (-1)))) (J := J) (R := R) hn hR (y := nI 0) (by decide); rw [show (m_row I 1 (va_up (va_up (va_up (I 1) 1 (nI 0)) 2 (nI 0)) 3 (-1))) 3 1 = I 3 1 from rfl, h1] at q; exact q) (m_go ?_)
  show AW _ _ _ _ _ _ _ _ [.int 1] _ _ _ _
  refine a_if_ne (tgt := 47) dS_text_41 (by decide) (fun _ => ?_) (fun c => False.elim (absurd c (by decide)))
  refine a_aload_n 1 dS_text_47 rfl rfl ?_
  refine a_geta (r := 40) dS_text_48 fl11_23 rfl ly_0 (by omega) (rf_0_2 hR) ?_
  refine a_iload_n 2 dS_text_51 rfl rfl ?_
  refine a_aload_n 1 dS_text_52 rfl rfl ?_
  refine a_geta (r := 1) dS_text_53 fl11_10 rfl ly_0 (by omega) (rf_0_0 hR) ?_
  refine a_geta (r := 2) dS_text_56 fl11_87 rfl ly_1 (by omega) (rf_1_0 hR) ?_
  refine a_iload_n 0 dS_text_59 rfl rfl ?_
  refine a_callV (Q' := rdQ (m_row I 1 (va_up (va_up (va_up (I 1) 1 (nI 0)) 2 (nI 0)) 3 (-1))) J R 1 (rdA (I 2) len 1 (len + 1) 0 (0, 0, -1, -1, Di))) (as := [.int (nI 1), .ref 2, .int (nI len)]) (st := []) dS_text_60 ml11_91 rfl (Nat.le_of_ble_eq_true rfl) ly_40 rfl rfl (by decide) (by omega) (Nat.le_of_ble_eq_true rfl) rfl (Nat.le_refl _) (Nat.le_refl _) (c_read (I := (m_row I 1 (va_up (va_up (va_up (I 1) 1 (nI 0)) 2 (nI 0)) 3 (-1)))) hn hR hl6 (by decide) hD) ?_
  intro v I2 J2 R2 ⟨e0, e1, e2, hf, g3, g4, hd⟩
  rw [e0, e1, e2]
  have hR2 : m_fin (m_up R 40 5 (some 2)) := fin_40 hR
  have i1 : I2 1 = va_up (va_up (va_up (I 1) 1 (nI 0)) 2 (nI 0)) 3 (-1) := hf 1 (by omega)
  have i3 : I2 3 = I 3 := hf 3 (by omega)
  refine a_mem (show I2 = m_row I2 1 (I2 1) from (m_row_self).symm) ?_
  show AW _ _ _ _ _ _ _ _ [] _ _ _ _
  obtain ⟨c, H⟩ := hd hf0
  refine a_aload_n 1 dS_text_63 rfl rfl ?_
  refine a_geta (r := 1) dS_text_64 fl11_10 rfl ly_0 (by omega) (rf_0_0 hR2) ?_
  refine a_aload_n 1 dS_text_67 rfl rfl ?_
  refine a_geta (r := 40) dS_text_68 fl11_23 rfl ly_0 (by omega) (rf_0_2 hR2) ?_
  refine a_geti dS_text_71 fl11_95 rfl ly_40 (by omega) ?_
  rw [show (m_row I2 1 (I2 1)) 40 3 = (nI 0) from (by rw [show m_row I2 1 _ 40 3 = I2 40 3 from rfl, g3, hf0])]
  refine a_puti dS_text_74 fl11_77 rfl ly_1 (by omega) ?_
  rw [show m_up (m_row I2 1 (I2 1)) 1 2 (nI 0) = (m_row I2 1 (va_up (I2 1) 2 (nI 0))) from (by rw [m_up_r])]
  refine a_aload_n 1 dS_text_77 rfl rfl ?_
  refine a_geta (r := 1) dS_text_78 fl11_10 rfl ly_0 (by omega) (rf_0_0 hR2) ?_
  refine a_aload_n 1 dS_text_81 rfl rfl ?_
  refine a_geta (r := 40) dS_text_82 fl11_23 rfl ly_0 (by omega) (rf_0_2 hR2) ?_
  refine a_geti dS_text_85 fl11_96 rfl ly_40 (by omega) ?_
  rw [show (m_row I2 1 (va_up (I2 1) 2 (nI 0))) 40 4 = (-1) from (g4.trans (if_pos hf0))]
  refine a_puti dS_text_88 fl11_80 rfl ly_1 (by omega) ?_
  rw [show m_up (m_row I2 1 (va_up (I2 1) 2 (nI 0))) 1 3 (-1) = (m_row I2 1 (va_up (va_up (I2 1) 2 (nI 0)) 3 (-1))) from (by rw [m_up_r])]
  refine a_aload_n 1 dS_text_91 rfl rfl ?_
  refine a_geta (r := 1) dS_text_92 fl11_10 rfl ly_0 (by omega) (rf_0_0 hR2) ?_
  refine a_geti dS_text_95 fl11_77 rfl ly_1 (by omega) ?_
  rw [show (m_row I2 1 (va_up (va_up (I2 1) 2 (nI 0)) 3 (-1))) 1 2 = (nI 0) from rfl]
  refine a_if_eq (tgt := 103) dS_text_98 (by decide) (fun _ => ?_) (fun c => False.elim (c rfl))
  refine a_aload_n 1 dS_text_103 rfl rfl ?_
  refine a_geta (r := 1) dS_text_104 fl11_10 rfl ly_0 (by omega) (rf_0_0 hR2) ?_
  refine a_iload_n 2 dS_text_107 rfl rfl ?_
  refine a_iload_n 3 dS_text_108 rfl rfl ?_
  refine a_aload_n 1 dS_text_109 rfl rfl ?_
  refine a_geta (r := 40) dS_text_110 fl11_23 rfl ly_0 (by omega) (rf_0_2 hR2) ?_
  refine a_callV (Q' := m_res (some (.int (nI 0))) (cpB (m_row I2 1 (va_up (va_up (I2 1) 2 (nI 0)) 3 (-1))) 50 24 cplWeek) J (m_up R 40 5 (some 2))) (as := [.int (nI 1), .int (nI 0), .ref 40]) (st := []) dS_text_113 ml11_97 rfl (Nat.le_of_ble_eq_true rfl) ly_1 rfl rfl (by decide) (by omega) (Nat.le_of_ble_eq_true rfl) rfl (Nat.le_refl _) (Nat.le_refl _) (c_take10o (I := (m_row I2 1 (va_up (va_up (I2 1) 2 (nI 0)) 3 (-1)))) hn hR2 (by show f_of (nI 0) (I2 3 1) = 1; rw [i3]; exact h1)) (m_go ?_)
  show AW _ _ _ _ _ _ _ _ [.int (nI 0)] _ _ _ _
  exact a_iret dS_text_116 rfl ⟨rfl, (cp_off (w := 4) (by unfold cpW; decide) (by omega)).trans (((m_row_eq).trans (txr_e i1))), (cp_off (w := 4) (by unfold cpW; decide) (by omega)).trans ((m_row_ne (by decide)).trans i3), fun a ha => (cp_off (w := 4) (by unfold cpW; decide) (by omega)).trans (((m_row_ne (by omega)).trans ((hf a (by omega)).trans (m_row_ne (by omega))))), ⟨c, WD_cp (WD_c H (fun a h1 h2 => m_row_ne (by omega)))⟩, KF.up40 (KF.refl hR)⟩
theorem q_S_text1o1 {S : Nat × (Nat → Int32)} {d n : Nat} {I : mI} {J : mJ} {R : mR} (hn : 122 ≤ n) (hR : m_fin R) {len : Nat} (hlen : I 1 1 = nI len) (hl6 : len ≤ 600) (h1 : f_of (nI 1) (I 3 1) = 1) {Di : Nat → Int32} (hD : ∀ j, j < 121 → Di j = D0 1 j) (hf0 : (rdA (I 2) len 1 (len + 1) 0 (0, 0, -1, -1, Di)).f = 0) : AW S (d + 9) YS_text n n (txQ I R (nI 1) (nI 0) (-1) (I 3) 28 31 (fun X => ∃ c, WD X 28 (rdA (I 2) len 1 (len + 1) 0 (0, 0, -1, -1, Di)).D c)) 0 [(0, .ref 0), (1, .int (nI 1)), (2, .int (nI 1))] [] I J R n := by
  refine a_mem (show I = m_row I 1 (I 1) from (m_row_self).symm) ?_
  refine a_aload_n 0 dS_text_0 rfl rfl ?_
  refine a_geta (r := 1) dS_text_1 fl11_10 rfl ly_0 (by omega) (rf_0_0 hR) ?_
  refine a_geti dS_text_4 fl11_69 rfl ly_1 (by omega) ?_
  rw [show (m_row I 1 (I 1)) 1 1 = (nI len) from hlen]
  refine a_istore_n (lv' := [(3, .int (nI len)), (0, .ref 0), (1, .int (nI 1)), (2, .int (nI 1))]) dS_text_7 rfl (by decide) rfl ?_
  refine a_aload_n 1 dS_text_8 rfl rfl ?_
  refine a_geta (r := 1) dS_text_9 fl11_10 rfl ly_0 (by omega) (rf_0_0 hR) ?_
  refine a_iconstN (a := 0) dS_text_12 (by decide) ?_
  refine a_puti dS_text_13 fl11_69 rfl ly_1 (by omega) ?_
  rw [show m_up (m_row I 1 (I 1)) 1 1 (nI 0) = (m_row I 1 (va_up (I 1) 1 (nI 0))) from (by rw [m_up_r])]
  refine a_aload_n 1 dS_text_16 rfl rfl ?_
  refine a_geta (r := 1) dS_text_17 fl11_10 rfl ly_0 (by omega) (rf_0_0 hR) ?_
  refine a_iconstN (a := 0) dS_text_20 (by decide) ?_
  refine a_puti dS_text_21 fl11_77 rfl ly_1 (by omega) ?_
  rw [show m_up (m_row I 1 (va_up (I 1) 1 (nI 0))) 1 2 (nI 0) = (m_row I 1 (va_up (va_up (I 1) 1 (nI 0)) 2 (nI 0))) from (by rw [m_up_r])]
  refine a_aload_n 1 dS_text_24 rfl rfl ?_
  refine a_geta (r := 1) dS_text_25 fl11_10 rfl ly_0 (by omega) (rf_0_0 hR) ?_
  refine a_iconst (v := -1) dS_text_28 (by decide) ?_
  refine a_puti dS_text_29 fl11_80 rfl ly_1 (by omega) ?_
  rw [show m_up (m_row I 1 (va_up (va_up (I 1) 1 (nI 0)) 2 (nI 0))) 1 3 (-1) = (m_row I 1 (va_up (va_up (va_up (I 1) 1 (nI 0)) 2 (nI 0)) 3 (-1))) from (by rw [m_up_r])]
  refine a_aload_n 1 dS_text_32 rfl rfl ?_
  refine a_geta (r := 1) dS_text_33 fl11_10 rfl ly_0 (by omega) (rf_0_0 hR) ?_
  refine a_iload_n 2 dS_text_36 rfl rfl ?_
  refine a_iload_n 3 dS_text_37 rfl rfl ?_
  refine a_callV (Q' := m_res (some (.int 1)) (m_row I 1 (va_up (va_up (va_up (I 1) 1 (nI 0)) 2 (nI 0)) 3 (-1))) J R) (as := [.int (nI 1), .int (nI 1)]) (st := []) dS_text_38 ml11_83 rfl (Nat.le_of_ble_eq_true rfl) ly_1 rfl rfl (by decide) (by omega) (Nat.le_of_ble_eq_true rfl) rfl (Nat.le_refl _) (Nat.le_refl _) (by have q := c_may1o (S := S) (d := d + 7) (n := n) (I := (m_row I 1 (va_up (va_up (va_up (I 1) 1 (nI 0)) 2 (nI 0)) 3 (-1)))) (J := J) (R := R) hn hR (y := nI 1) (by decide); rw [show (m_row I 1 (va_up (va_up (va_up (I 1) 1 (nI 0)) 2 (nI 0)) 3 (-1))) 3 1 = I 3 1 from rfl, h1] at q; exact q) (m_go ?_)
  show AW _ _ _ _ _ _ _ _ [.int 1] _ _ _ _
  refine a_if_ne (tgt := 47) dS_text_41 (by decide) (fun _ => ?_) (fun c => False.elim (absurd c (by decide)))
  refine a_aload_n 1 dS_text_47 rfl rfl ?_
  refine a_geta (r := 40) dS_text_48 fl11_23 rfl ly_0 (by omega) (rf_0_2 hR) ?_
  refine a_iload_n 2 dS_text_51 rfl rfl ?_
  refine a_aload_n 1 dS_text_52 rfl rfl ?_
  refine a_geta (r := 1) dS_text_53 fl11_10 rfl ly_0 (by omega) (rf_0_0 hR) ?_
  refine a_geta (r := 2) dS_text_56 fl11_87 rfl ly_1 (by omega) (rf_1_0 hR) ?_
  refine a_iload_n 0 dS_text_59 rfl rfl ?_
  refine a_callV (Q' := rdQ (m_row I 1 (va_up (va_up (va_up (I 1) 1 (nI 0)) 2 (nI 0)) 3 (-1))) J R 1 (rdA (I 2) len 1 (len + 1) 0 (0, 0, -1, -1, Di))) (as := [.int (nI 1), .ref 2, .int (nI len)]) (st := []) dS_text_60 ml11_91 rfl (Nat.le_of_ble_eq_true rfl) ly_40 rfl rfl (by decide) (by omega) (Nat.le_of_ble_eq_true rfl) rfl (Nat.le_refl _) (Nat.le_refl _) (c_read (I := (m_row I 1 (va_up (va_up (va_up (I 1) 1 (nI 0)) 2 (nI 0)) 3 (-1)))) hn hR hl6 (by decide) hD) ?_
  intro v I2 J2 R2 ⟨e0, e1, e2, hf, g3, g4, hd⟩
  rw [e0, e1, e2]
  have hR2 : m_fin (m_up R 40 5 (some 2)) := fin_40 hR
  have i1 : I2 1 = va_up (va_up (va_up (I 1) 1 (nI 0)) 2 (nI 0)) 3 (-1) := hf 1 (by omega)
  have i3 : I2 3 = I 3 := hf 3 (by omega)
  refine a_mem (show I2 = m_row I2 1 (I2 1) from (m_row_self).symm) ?_
  show AW _ _ _ _ _ _ _ _ [] _ _ _ _
  obtain ⟨c, H⟩ := hd hf0
  refine a_aload_n 1 dS_text_63 rfl rfl ?_
  refine a_geta (r := 1) dS_text_64 fl11_10 rfl ly_0 (by omega) (rf_0_0 hR2) ?_
  refine a_aload_n 1 dS_text_67 rfl rfl ?_
  refine a_geta (r := 40) dS_text_68 fl11_23 rfl ly_0 (by omega) (rf_0_2 hR2) ?_
  refine a_geti dS_text_71 fl11_95 rfl ly_40 (by omega) ?_
  rw [show (m_row I2 1 (I2 1)) 40 3 = (nI 0) from (by rw [show m_row I2 1 _ 40 3 = I2 40 3 from rfl, g3, hf0])]
  refine a_puti dS_text_74 fl11_77 rfl ly_1 (by omega) ?_
  rw [show m_up (m_row I2 1 (I2 1)) 1 2 (nI 0) = (m_row I2 1 (va_up (I2 1) 2 (nI 0))) from (by rw [m_up_r])]
  refine a_aload_n 1 dS_text_77 rfl rfl ?_
  refine a_geta (r := 1) dS_text_78 fl11_10 rfl ly_0 (by omega) (rf_0_0 hR2) ?_
  refine a_aload_n 1 dS_text_81 rfl rfl ?_
  refine a_geta (r := 40) dS_text_82 fl11_23 rfl ly_0 (by omega) (rf_0_2 hR2) ?_
  refine a_geti dS_text_85 fl11_96 rfl ly_40 (by omega) ?_
  rw [show (m_row I2 1 (va_up (I2 1) 2 (nI 0))) 40 4 = (-1) from (g4.trans (if_pos hf0))]
  refine a_puti dS_text_88 fl11_80 rfl ly_1 (by omega) ?_
  rw [show m_up (m_row I2 1 (va_up (I2 1) 2 (nI 0))) 1 3 (-1) = (m_row I2 1 (va_up (va_up (I2 1) 2 (nI 0)) 3 (-1))) from (by rw [m_up_r])]
  refine a_aload_n 1 dS_text_91 rfl rfl ?_
  refine a_geta (r := 1) dS_text_92 fl11_10 rfl ly_0 (by omega) (rf_0_0 hR2) ?_
  refine a_geti dS_text_95 fl11_77 rfl ly_1 (by omega) ?_
  rw [show (m_row I2 1 (va_up (va_up (I2 1) 2 (nI 0)) 3 (-1))) 1 2 = (nI 0) from rfl]
  refine a_if_eq (tgt := 103) dS_text_98 (by decide) (fun _ => ?_) (fun c => False.elim (c rfl))
  refine a_aload_n 1 dS_text_103 rfl rfl ?_
  refine a_geta (r := 1) dS_text_104 fl11_10 rfl ly_0 (by omega) (rf_0_0 hR2) ?_
  refine a_iload_n 2 dS_text_107 rfl rfl ?_
  refine a_iload_n 3 dS_text_108 rfl rfl ?_
  refine a_aload_n 1 dS_text_109 rfl rfl ?_
  refine a_geta (r := 40) dS_text_110 fl11_23 rfl ly_0 (by omega) (rf_0_2 hR2) ?_
  refine a_callV (Q' := m_res (some (.int (nI 1))) (cpB (m_row I2 1 (va_up (va_up (I2 1) 2 (nI 0)) 3 (-1))) 50 28 cplWeek) J (m_up R 40 5 (some 2))) (as := [.int (nI 1), .int (nI 1), .ref 40]) (st := []) dS_text_113 ml11_97 rfl (Nat.le_of_ble_eq_true rfl) ly_1 rfl rfl (by decide) (by omega) (Nat.le_of_ble_eq_true rfl) rfl (Nat.le_refl _) (Nat.le_refl _) (c_take11o (I := (m_row I2 1 (va_up (va_up (I2 1) 2 (nI 0)) 3 (-1)))) hn hR2 (by show f_of (nI 1) (I2 3 1) = 1; rw [i3]; exact h1)) (m_go ?_)
  show AW _ _ _ _ _ _ _ _ [.int (nI 1)] _ _ _ _
  exact a_iret dS_text_116 rfl ⟨rfl, (cp_off (w := 4) (by unfold cpW; decide) (by omega)).trans (((m_row_eq).trans (txr_e i1))), (cp_off (w := 4) (by unfold cpW; decide) (by omega)).trans ((m_row_ne (by decide)).trans i3), fun a ha => (cp_off (w := 4) (by unfold cpW; decide) (by omega)).trans (((m_row_ne (by omega)).trans ((hf a (by omega)).trans (m_row_ne (by omega))))), ⟨c, WD_cp (WD_c H (fun a h1 h2 => m_row_ne (by omega)))⟩, KF.up40 (KF.refl hR)⟩
theorem q_S_text2nF {S : Nat × (Nat → Int32)} {d n : Nat} {I : mI} {J : mJ} {R : mR} (hn : 122 ≤ n) (hR : m_fin R) {len : Nat} (hlen : I 1 1 = nI len) (hl6 : len ≤ 600) (h : I 3 2 < nI 2) {Di : Nat → Int32} (hD : ∀ j, j < 121 → Di j = D0 2 j) (h5 : (rdA (I 2) len 2 (len + 1) 0 (0, 0, -1, -1, Di)).f < 5) (hf0 : ¬ (rdA (I 2) len 2 (len + 1) 0 (0, 0, -1, -1, Di)).f = 0) : AW S (d + 9) YS_text n n (txQ I R (-1) (nI (rdA (I 2) len 2 (len + 1) 0 (0, 0, -1, -1, Di)).f) (nI (rdA (I 2) len 2 (len + 1) 0 (0, 0, -1, -1, Di)).pl) (I 3) 40 0 (fun _ => True)) 0 [(0, .ref 0), (1, .int (nI 2)), (2, .int (-1))] [] I J R n := by
  refine a_mem (show I = m_row I 1 (I 1) from (m_row_self).symm) ?_
  refine a_aload_n 0 dS_text_0 rfl rfl ?_
  refine a_geta (r := 1) dS_text_1 fl11_10 rfl ly_0 (by omega) (rf_0_0 hR) ?_
  refine a_geti dS_text_4 fl11_69 rfl ly_1 (by omega) ?_
  rw [show (m_row I 1 (I 1)) 1 1 = (nI len) from hlen]
  refine a_istore_n (lv' := [(3, .int (nI len)), (0, .ref 0), (1, .int (nI 2)), (2, .int (-1))]) dS_text_7 rfl (by decide) rfl ?_
  refine a_aload_n 1 dS_text_8 rfl rfl ?_
  refine a_geta (r := 1) dS_text_9 fl11_10 rfl ly_0 (by omega) (rf_0_0 hR) ?_
  refine a_iconstN (a := 0) dS_text_12 (by decide) ?_
  refine a_puti dS_text_13 fl11_69 rfl ly_1 (by omega) ?_
  rw [show m_up (m_row I 1 (I 1)) 1 1 (nI 0) = (m_row I 1 (va_up (I 1) 1 (nI 0))) from (by rw [m_up_r])]
  refine a_aload_n 1 dS_text_16 rfl rfl ?_
  refine a_geta (r := 1) dS_text_17 fl11_10 rfl ly_0 (by omega) (rf_0_0 hR) ?_
  refine a_iconstN (a := 0) dS_text_20 (by decide) ?_
  refine a_puti dS_text_21 fl11_77 rfl ly_1 (by omega) ?_
  rw [show m_up (m_row I 1 (va_up (I 1) 1 (nI 0))) 1 2 (nI 0) = (m_row I 1 (va_up (va_up (I 1) 1 (nI 0)) 2 (nI 0))) from (by rw [m_up_r])]
  refine a_aload_n 1 dS_text_24 rfl rfl ?_
  refine a_geta (r := 1) dS_text_25 fl11_10 rfl ly_0 (by omega) (rf_0_0 hR) ?_
  refine a_iconst (v := -1) dS_text_28 (by decide) ?_
  refine a_puti dS_text_29 fl11_80 rfl ly_1 (by omega) ?_
  rw [show m_up (m_row I 1 (va_up (va_up (I 1) 1 (nI 0)) 2 (nI 0))) 1 3 (-1) = (m_row I 1 (va_up (va_up (va_up (I 1) 1 (nI 0)) 2 (nI 0)) 3 (-1))) from (by rw [m_up_r])]
  refine a_aload_n 1 dS_text_32 rfl rfl ?_
  refine a_geta (r := 1) dS_text_33 fl11_10 rfl ly_0 (by omega) (rf_0_0 hR) ?_
  refine a_iload_n 2 dS_text_36 rfl rfl ?_
  refine a_iload_n 3 dS_text_37 rfl rfl ?_
  refine a_callV (Q' := m_res (some (.int (nI 1))) (m_row I 1 (va_up (va_up (va_up (I 1) 1 (nI 0)) 2 (nI 0)) 3 (-1))) J R) (as := [.int (nI 2), .int (-1)]) (st := []) dS_text_38 ml11_83 rfl (Nat.le_of_ble_eq_true rfl) ly_1 rfl rfl (by decide) (by omega) (Nat.le_of_ble_eq_true rfl) rfl (Nat.le_refl _) (Nat.le_refl _) (c_may2n1 hn hR h) (m_go ?_)
  show AW _ _ _ _ _ _ _ _ [.int (nI 1)] _ _ _ _
  refine a_if_ne (tgt := 47) dS_text_41 (by decide) (fun _ => ?_) (fun c => False.elim (absurd c (by decide)))
  refine a_aload_n 1 dS_text_47 rfl rfl ?_
  refine a_geta (r := 40) dS_text_48 fl11_23 rfl ly_0 (by omega) (rf_0_2 hR) ?_
  refine a_iload_n 2 dS_text_51 rfl rfl ?_
  refine a_aload_n 1 dS_text_52 rfl rfl ?_
  refine a_geta (r := 1) dS_text_53 fl11_10 rfl ly_0 (by omega) (rf_0_0 hR) ?_
  refine a_geta (r := 2) dS_text_56 fl11_87 rfl ly_1 (by omega) (rf_1_0 hR) ?_
  refine a_iload_n 0 dS_text_59 rfl rfl ?_
  refine a_callV (Q' := rdQ (m_row I 1 (va_up (va_up (va_up (I 1) 1 (nI 0)) 2 (nI 0)) 3 (-1))) J R 2 (rdA (I 2) len 2 (len + 1) 0 (0, 0, -1, -1, Di))) (as := [.int (nI 2), .ref 2, .int (nI len)]) (st := []) dS_text_60 ml11_91 rfl (Nat.le_of_ble_eq_true rfl) ly_40 rfl rfl (by decide) (by omega) (Nat.le_of_ble_eq_true rfl) rfl (Nat.le_refl _) (Nat.le_refl _) (c_read (I := (m_row I 1 (va_up (va_up (va_up (I 1) 1 (nI 0)) 2 (nI 0)) 3 (-1)))) hn hR hl6 (by decide) hD) ?_
  intro v I2 J2 R2 ⟨e0, e1, e2, hf, g3, g4, hd⟩
  rw [e0, e1, e2]
  have hR2 : m_fin (m_up R 40 5 (some 2)) := fin_40 hR
  have i1 : I2 1 = va_up (va_up (va_up (I 1) 1 (nI 0)) 2 (nI 0)) 3 (-1) := hf 1 (by omega)
  have i3 : I2 3 = I 3 := hf 3 (by omega)
  refine a_mem (show I2 = m_row I2 1 (I2 1) from (m_row_self).symm) ?_
  show AW _ _ _ _ _ _ _ _ [] _ _ _ _
  have hz : ¬ nI (rdA (I 2) len 2 (len + 1) 0 (0, 0, -1, -1, Di)).f = 0 := fun q => hf0 (by rw [show (0 : Int32) = nI 0 from rfl, nI_eq (by have := h5; omega) (by decide)] at q; exact q)
  refine a_aload_n 1 dS_text_63 rfl rfl ?_
  refine a_geta (r := 1) dS_text_64 fl11_10 rfl ly_0 (by omega) (rf_0_0 hR2) ?_
  refine a_aload_n 1 dS_text_67 rfl rfl ?_
  refine a_geta (r := 40) dS_text_68 fl11_23 rfl ly_0 (by omega) (rf_0_2 hR2) ?_
  refine a_geti dS_text_71 fl11_95 rfl ly_40 (by omega) ?_
  rw [show (m_row I2 1 (I2 1)) 40 3 = (nI (rdA (I 2) len 2 (len + 1) 0 (0, 0, -1, -1, Di)).f) from g3]
  refine a_puti dS_text_74 fl11_77 rfl ly_1 (by omega) ?_
  rw [show m_up (m_row I2 1 (I2 1)) 1 2 (nI (rdA (I 2) len 2 (len + 1) 0 (0, 0, -1, -1, Di)).f) = (m_row I2 1 (va_up (I2 1) 2 (nI (rdA (I 2) len 2 (len + 1) 0 (0, 0, -1, -1, Di)).f))) from (by rw [m_up_r])]
  refine a_aload_n 1 dS_text_77 rfl rfl ?_
  refine a_geta (r := 1) dS_text_78 fl11_10 rfl ly_0 (by omega) (rf_0_0 hR2) ?_
  refine a_aload_n 1 dS_text_81 rfl rfl ?_
  refine a_geta (r := 40) dS_text_82 fl11_23 rfl ly_0 (by omega) (rf_0_2 hR2) ?_
  refine a_geti dS_text_85 fl11_96 rfl ly_40 (by omega) ?_
  rw [show (m_row I2 1 (va_up (I2 1) 2 (nI (rdA (I 2) len 2 (len + 1) 0 (0, 0, -1, -1, Di)).f))) 40 4 = (nI (rdA (I 2) len 2 (len + 1) 0 (0, 0, -1, -1, Di)).pl) from (g4.trans (if_neg hf0))]
  refine a_puti dS_text_88 fl11_80 rfl ly_1 (by omega) ?_
  rw [show m_up (m_row I2 1 (va_up (I2 1) 2 (nI (rdA (I 2) len 2 (len + 1) 0 (0, 0, -1, -1, Di)).f))) 1 3 (nI (rdA (I 2) len 2 (len + 1) 0 (0, 0, -1, -1, Di)).pl) = (m_row I2 1 (va_up (va_up (I2 1) 2 (nI (rdA (I 2) len 2 (len + 1) 0 (0, 0, -1, -1, Di)).f)) 3 (nI (rdA (I 2) len 2 (len + 1) 0 (0, 0, -1, -1, Di)).pl))) from (by rw [m_up_r])]
  refine a_aload_n 1 dS_text_91 rfl rfl ?_
  refine a_geta (r := 1) dS_text_92 fl11_10 rfl ly_0 (by omega) (rf_0_0 hR2) ?_
  refine a_geti dS_text_95 fl11_77 rfl ly_1 (by omega) ?_
  rw [show (m_row I2 1 (va_up (va_up (I2 1) 2 (nI (rdA (I 2) len 2 (len + 1) 0 (0, 0, -1, -1, Di)).f)) 3 (nI (rdA (I 2) len 2 (len + 1) 0 (0, 0, -1, -1, Di)).pl))) 1 2 = (nI (rdA (I 2) len 2 (len + 1) 0 (0, 0, -1, -1, Di)).f) from rfl]
  refine a_if_eq (tgt := 103) dS_text_98 (by decide) (fun c => False.elim (hz c)) (fun _ => ?_)
  refine a_iconst (v := -1) dS_text_101 (by decide) ?_
  exact a_iret dS_text_102 rfl ⟨rfl, (m_row_eq).trans (txr_e i1), i3, fun a ha => (m_row_ne (by omega)).trans ((hf a (by omega)).trans (m_row_ne (by omega))), trivial, KF.up40 (KF.refl hR)⟩
theorem q_S_text2n0 {S : Nat × (Nat → Int32)} {d n : Nat} {I : mI} {J : mJ} {R : mR} (hn : 122 ≤ n) (hR : m_fin R) {len : Nat} (hlen : I 1 1 = nI len) (hl6 : len ≤ 600) (h3 : I 3 2 = nI 0) {Di : Nat → Int32} (hD : ∀ j, j < 121 → Di j = D0 2 j) (hf0 : (rdA (I 2) len 2 (len + 1) 0 (0, 0, -1, -1, Di)).f = 0) : AW S (d + 9) YS_text n n (txQ I R (nI 0) (nI 0) (-1) (va_up (I 3) 2 (nI 1)) 33 35 (fun X => ∃ c, LD X 33 (rdA (I 2) len 2 (len + 1) 0 (0, 0, -1, -1, Di)).D c)) 0 [(0, .ref 0), (1, .int (nI 2)), (2, .int (-1))] [] I J R n := by
  refine a_mem (show I = m_row I 1 (I 1) from (m_row_self).symm) ?_
  refine a_aload_n 0 dS_text_0 rfl rfl ?_
  refine a_geta (r := 1) dS_text_1 fl11_10 rfl ly_0 (by omega) (rf_0_0 hR) ?_
  refine a_geti dS_text_4 fl11_69 rfl ly_1 (by omega) ?_
  rw [show (m_row I 1 (I 1)) 1 1 = (nI len) from hlen]
  refine a_istore_n (lv' := [(3, .int (nI len)), (0, .ref 0), (1, .int (nI 2)), (2, .int (-1))]) dS_text_7 rfl (by decide) rfl ?_
  refine a_aload_n 1 dS_text_8 rfl rfl ?_
  refine a_geta (r := 1) dS_text_9 fl11_10 rfl ly_0 (by omega) (rf_0_0 hR) ?_
  refine a_iconstN (a := 0) dS_text_12 (by decide) ?_
  refine a_puti dS_text_13 fl11_69 rfl ly_1 (by omega) ?_
  rw [show m_up (m_row I 1 (I 1)) 1 1 (nI 0) = (m_row I 1 (va_up (I 1) 1 (nI 0))) from (by rw [m_up_r])]
  refine a_aload_n 1 dS_text_16 rfl rfl ?_
  refine a_geta (r := 1) dS_text_17 fl11_10 rfl ly_0 (by omega) (rf_0_0 hR) ?_
  refine a_iconstN (a := 0) dS_text_20 (by decide) ?_
  refine a_puti dS_text_21 fl11_77 rfl ly_1 (by omega) ?_
  rw [show m_up (m_row I 1 (va_up (I 1) 1 (nI 0))) 1 2 (nI 0) = (m_row I 1 (va_up (va_up (I 1) 1 (nI 0)) 2 (nI 0))) from (by rw [m_up_r])]
  refine a_aload_n 1 dS_text_24 rfl rfl ?_
  refine a_geta (r := 1) dS_text_25 fl11_10 rfl ly_0 (by omega) (rf_0_0 hR) ?_
  refine a_iconst (v := -1) dS_text_28 (by decide) ?_
  refine a_puti dS_text_29 fl11_80 rfl ly_1 (by omega) ?_
  rw [show m_up (m_row I 1 (va_up (va_up (I 1) 1 (nI 0)) 2 (nI 0))) 1 3 (-1) = (m_row I 1 (va_up (va_up (va_up (I 1) 1 (nI 0)) 2 (nI 0)) 3 (-1))) from (by rw [m_up_r])]
  refine a_aload_n 1 dS_text_32 rfl rfl ?_
  refine a_geta (r := 1) dS_text_33 fl11_10 rfl ly_0 (by omega) (rf_0_0 hR) ?_
  refine a_iload_n 2 dS_text_36 rfl rfl ?_
  refine a_iload_n 3 dS_text_37 rfl rfl ?_
  refine a_callV (Q' := m_res (some (.int (nI 1))) (m_row I 1 (va_up (va_up (va_up (I 1) 1 (nI 0)) 2 (nI 0)) 3 (-1))) J R) (as := [.int (nI 2), .int (-1)]) (st := []) dS_text_38 ml11_83 rfl (Nat.le_of_ble_eq_true rfl) ly_1 rfl rfl (by decide) (by omega) (Nat.le_of_ble_eq_true rfl) rfl (Nat.le_refl _) (Nat.le_refl _) (c_may2n1 hn hR (by show I 3 2 < nI 2; rw [h3]; decide)) (m_go ?_)
  show AW _ _ _ _ _ _ _ _ [.int (nI 1)] _ _ _ _
  refine a_if_ne (tgt := 47) dS_text_41 (by decide) (fun _ => ?_) (fun c => False.elim (absurd c (by decide)))
  refine a_aload_n 1 dS_text_47 rfl rfl ?_
  refine a_geta (r := 40) dS_text_48 fl11_23 rfl ly_0 (by omega) (rf_0_2 hR) ?_
  refine a_iload_n 2 dS_text_51 rfl rfl ?_
  refine a_aload_n 1 dS_text_52 rfl rfl ?_
  refine a_geta (r := 1) dS_text_53 fl11_10 rfl ly_0 (by omega) (rf_0_0 hR) ?_
  refine a_geta (r := 2) dS_text_56 fl11_87 rfl ly_1 (by omega) (rf_1_0 hR) ?_
  refine a_iload_n 0 dS_text_59 rfl rfl ?_
  refine a_callV (Q' := rdQ (m_row I 1 (va_up (va_up (va_up (I 1) 1 (nI 0)) 2 (nI 0)) 3 (-1))) J R 2 (rdA (I 2) len 2 (len + 1) 0 (0, 0, -1, -1, Di))) (as := [.int (nI 2), .ref 2, .int (nI len)]) (st := []) dS_text_60 ml11_91 rfl (Nat.le_of_ble_eq_true rfl) ly_40 rfl rfl (by decide) (by omega) (Nat.le_of_ble_eq_true rfl) rfl (Nat.le_refl _) (Nat.le_refl _) (c_read (I := (m_row I 1 (va_up (va_up (va_up (I 1) 1 (nI 0)) 2 (nI 0)) 3 (-1)))) hn hR hl6 (by decide) hD) ?_
  intro v I2 J2 R2 ⟨e0, e1, e2, hf, g3, g4, hd⟩
  rw [e0, e1, e2]
  have hR2 : m_fin (m_up R 40 5 (some 2)) := fin_40 hR
  have i1 : I2 1 = va_up (va_up (va_up (I 1) 1 (nI 0)) 2 (nI 0)) 3 (-1) := hf 1 (by omega)
  have i3 : I2 3 = I 3 := hf 3 (by omega)
  refine a_mem (show I2 = m_row I2 1 (I2 1) from (m_row_self).symm) ?_
  show AW _ _ _ _ _ _ _ _ [] _ _ _ _
  obtain ⟨c, H⟩ := hd hf0
  refine a_aload_n 1 dS_text_63 rfl rfl ?_
  refine a_geta (r := 1) dS_text_64 fl11_10 rfl ly_0 (by omega) (rf_0_0 hR2) ?_
  refine a_aload_n 1 dS_text_67 rfl rfl ?_
  refine a_geta (r := 40) dS_text_68 fl11_23 rfl ly_0 (by omega) (rf_0_2 hR2) ?_
  refine a_geti dS_text_71 fl11_95 rfl ly_40 (by omega) ?_
  rw [show (m_row I2 1 (I2 1)) 40 3 = (nI 0) from (by rw [show m_row I2 1 _ 40 3 = I2 40 3 from rfl, g3, hf0])]
  refine a_puti dS_text_74 fl11_77 rfl ly_1 (by omega) ?_
  rw [show m_up (m_row I2 1 (I2 1)) 1 2 (nI 0) = (m_row I2 1 (va_up (I2 1) 2 (nI 0))) from (by rw [m_up_r])]
  refine a_aload_n 1 dS_text_77 rfl rfl ?_
  refine a_geta (r := 1) dS_text_78 fl11_10 rfl ly_0 (by omega) (rf_0_0 hR2) ?_
  refine a_aload_n 1 dS_text_81 rfl rfl ?_
  refine a_geta (r := 40) dS_text_82 fl11_23 rfl ly_0 (by omega) (rf_0_2 hR2) ?_
  refine a_geti dS_text_85 fl11_96 rfl ly_40 (by omega) ?_
  rw [show (m_row I2 1 (va_up (I2 1) 2 (nI 0))) 40 4 = (-1) from (g4.trans (if_pos hf0))]
  refine a_puti dS_text_88 fl11_80 rfl ly_1 (by omega) ?_
  rw [show m_up (m_row I2 1 (va_up (I2 1) 2 (nI 0))) 1 3 (-1) = (m_row I2 1 (va_up (va_up (I2 1) 2 (nI 0)) 3 (-1))) from (by rw [m_up_r])]
  refine a_aload_n 1 dS_text_91 rfl rfl ?_
  refine a_geta (r := 1) dS_text_92 fl11_10 rfl ly_0 (by omega) (rf_0_0 hR2) ?_
  refine a_geti dS_text_95 fl11_77 rfl ly_1 (by omega) ?_
  rw [show (m_row I2 1 (va_up (va_up (I2 1) 2 (nI 0)) 3 (-1))) 1 2 = (nI 0) from rfl]
  refine a_if_eq (tgt := 103) dS_text_98 (by decide) (fun _ => ?_) (fun c => False.elim (c rfl))
  refine a_aload_n 1 dS_text_103 rfl rfl ?_
  refine a_geta (r := 1) dS_text_104 fl11_10 rfl ly_0 (by omega) (rf_0_0 hR2) ?_
  refine a_iload_n 2 dS_text_107 rfl rfl ?_
  refine a_iload_n 3 dS_text_108 rfl rfl ?_
  refine a_aload_n 1 dS_text_109 rfl rfl ?_
  refine a_geta (r := 40) dS_text_110 fl11_23 rfl ly_0 (by omega) (rf_0_2 hR2) ?_
  refine a_callV (Q' := m_res (some (.int (nI 0))) (cpB (m_up (m_row I2 1 (va_up (va_up (I2 1) 2 (nI 0)) 3 (-1))) 3 2 (nI 1)) 54 33 cplLog) J (m_up R 40 5 (some 2))) (as := [.int (nI 2), .int (-1), .ref 40]) (st := []) dS_text_113 ml11_97 rfl (Nat.le_of_ble_eq_true rfl) ly_1 rfl rfl (by decide) (by omega) (Nat.le_of_ble_eq_true rfl) rfl (Nat.le_refl _) (Nat.le_refl _) (c_take20n (I := (m_row I2 1 (va_up (va_up (I2 1) 2 (nI 0)) 3 (-1)))) hn hR2 (by show I2 3 2 = nI 0; rw [i3]; exact h3)) (m_go ?_)
  show AW _ _ _ _ _ _ _ _ [.int (nI 0)] _ _ _ _
  exact a_iret dS_text_116 rfl ⟨rfl, (cp_off (w := 3) (by unfold cpW; decide) (by omega)).trans ((m_up_ne (by decide)).trans ((m_row_eq).trans (txr_e i1))), (cp_off (w := 3) (by unfold cpW; decide) (by omega)).trans ((m_up_eq).trans (by rw [show (m_row I2 1 (va_up (va_up (I2 1) 2 (nI 0)) 3 (-1))) 3 = I2 3 from rfl, i3])), fun a ha => (cp_off (w := 3) (by unfold cpW; decide) (by omega)).trans ((m_up_ne (by omega)).trans ((m_row_ne (by omega)).trans ((hf a (by omega)).trans (m_row_ne (by omega))))), ⟨c, LD_cp (LD_c H (fun a h1 h2 => (m_up_ne (by omega)).trans (m_row_ne (by omega))))⟩, KF.up40 (KF.refl hR)⟩
theorem q_S_text2n1 {S : Nat × (Nat → Int32)} {d n : Nat} {I : mI} {J : mJ} {R : mR} (hn : 122 ≤ n) (hR : m_fin R) {len : Nat} (hlen : I 1 1 = nI len) (hl6 : len ≤ 600) (h3 : I 3 2 = nI 1) {Di : Nat → Int32} (hD : ∀ j, j < 121 → Di j = D0 2 j) (hf0 : (rdA (I 2) len 2 (len + 1) 0 (0, 0, -1, -1, Di)).f = 0) : AW S (d + 9) YS_text n n (txQ I R (nI 1) (nI 0) (-1) (va_up (I 3) 2 (nI 2)) 36 38 (fun X => ∃ c, LD X 36 (rdA (I 2) len 2 (len + 1) 0 (0, 0, -1, -1, Di)).D c)) 0 [(0, .ref 0), (1, .int (nI 2)), (2, .int (-1))] [] I J R n := by
  refine a_mem (show I = m_row I 1 (I 1) from (m_row_self).symm) ?_
  refine a_aload_n 0 dS_text_0 rfl rfl ?_
  refine a_geta (r := 1) dS_text_1 fl11_10 rfl ly_0 (by omega) (rf_0_0 hR) ?_
  refine a_geti dS_text_4 fl11_69 rfl ly_1 (by omega) ?_
  rw [show (m_row I 1 (I 1)) 1 1 = (nI len) from hlen]
  refine a_istore_n (lv' := [(3, .int (nI len)), (0, .ref 0), (1, .int (nI 2)), (2, .int (-1))]) dS_text_7 rfl (by decide) rfl ?_
  refine a_aload_n 1 dS_text_8 rfl rfl ?_
  refine a_geta (r := 1) dS_text_9 fl11_10 rfl ly_0 (by omega) (rf_0_0 hR) ?_
  refine a_iconstN (a := 0) dS_text_12 (by decide) ?_
  refine a_puti dS_text_13 fl11_69 rfl ly_1 (by omega) ?_
  rw [show m_up (m_row I 1 (I 1)) 1 1 (nI 0) = (m_row I 1 (va_up (I 1) 1 (nI 0))) from (by rw [m_up_r])]
  refine a_aload_n 1 dS_text_16 rfl rfl ?_
  refine a_geta (r := 1) dS_text_17 fl11_10 rfl ly_0 (by omega) (rf_0_0 hR) ?_
  refine a_iconstN (a := 0) dS_text_20 (by decide) ?_
  refine a_puti dS_text_21 fl11_77 rfl ly_1 (by omega) ?_
  rw [show m_up (m_row I 1 (va_up (I 1) 1 (nI 0))) 1 2 (nI 0) = (m_row I 1 (va_up (va_up (I 1) 1 (nI 0)) 2 (nI 0))) from (by rw [m_up_r])]
  refine a_aload_n 1 dS_text_24 rfl rfl ?_
  refine a_geta (r := 1) dS_text_25 fl11_10 rfl ly_0 (by omega) (rf_0_0 hR) ?_
  refine a_iconst (v := -1) dS_text_28 (by decide) ?_
  refine a_puti dS_text_29 fl11_80 rfl ly_1 (by omega) ?_
  rw [show m_up (m_row I 1 (va_up (va_up (I 1) 1 (nI 0)) 2 (nI 0))) 1 3 (-1) = (m_row I 1 (va_up (va_up (va_up (I 1) 1 (nI 0)) 2 (nI 0)) 3 (-1))) from (by rw [m_up_r])]
  refine a_aload_n 1 dS_text_32 rfl rfl ?_
  refine a_geta (r := 1) dS_text_33 fl11_10 rfl ly_0 (by omega) (rf_0_0 hR) ?_
  refine a_iload_n 2 dS_text_36 rfl rfl ?_
  refine a_iload_n 3 dS_text_37 rfl rfl ?_
  refine a_callV (Q' := m_res (some (.int (nI 1))) (m_row I 1 (va_up (va_up (va_up (I 1) 1 (nI 0)) 2 (nI 0)) 3 (-1))) J R) (as := [.int (nI 2), .int (-1)]) (st := []) dS_text_38 ml11_83 rfl (Nat.le_of_ble_eq_true rfl) ly_1 rfl rfl (by decide) (by omega) (Nat.le_of_ble_eq_true rfl) rfl (Nat.le_refl _) (Nat.le_refl _) (c_may2n1 hn hR (by show I 3 2 < nI 2; rw [h3]; decide)) (m_go ?_)
  show AW _ _ _ _ _ _ _ _ [.int (nI 1)] _ _ _ _
  refine a_if_ne (tgt := 47) dS_text_41 (by decide) (fun _ => ?_) (fun c => False.elim (absurd c (by decide)))
  refine a_aload_n 1 dS_text_47 rfl rfl ?_
  refine a_geta (r := 40) dS_text_48 fl11_23 rfl ly_0 (by omega) (rf_0_2 hR) ?_
  refine a_iload_n 2 dS_text_51 rfl rfl ?_
  refine a_aload_n 1 dS_text_52 rfl rfl ?_
  refine a_geta (r := 1) dS_text_53 fl11_10 rfl ly_0 (by omega) (rf_0_0 hR) ?_
  refine a_geta (r := 2) dS_text_56 fl11_87 rfl ly_1 (by omega) (rf_1_0 hR) ?_
  refine a_iload_n 0 dS_text_59 rfl rfl ?_
  refine a_callV (Q' := rdQ (m_row I 1 (va_up (va_up (va_up (I 1) 1 (nI 0)) 2 (nI 0)) 3 (-1))) J R 2 (rdA (I 2) len 2 (len + 1) 0 (0, 0, -1, -1, Di))) (as := [.int (nI 2), .ref 2, .int (nI len)]) (st := []) dS_text_60 ml11_91 rfl (Nat.le_of_ble_eq_true rfl) ly_40 rfl rfl (by decide) (by omega) (Nat.le_of_ble_eq_true rfl) rfl (Nat.le_refl _) (Nat.le_refl _) (c_read (I := (m_row I 1 (va_up (va_up (va_up (I 1) 1 (nI 0)) 2 (nI 0)) 3 (-1)))) hn hR hl6 (by decide) hD) ?_
  intro v I2 J2 R2 ⟨e0, e1, e2, hf, g3, g4, hd⟩
  rw [e0, e1, e2]
  have hR2 : m_fin (m_up R 40 5 (some 2)) := fin_40 hR
  have i1 : I2 1 = va_up (va_up (va_up (I 1) 1 (nI 0)) 2 (nI 0)) 3 (-1) := hf 1 (by omega)
  have i3 : I2 3 = I 3 := hf 3 (by omega)
  refine a_mem (show I2 = m_row I2 1 (I2 1) from (m_row_self).symm) ?_
  show AW _ _ _ _ _ _ _ _ [] _ _ _ _
  obtain ⟨c, H⟩ := hd hf0
  refine a_aload_n 1 dS_text_63 rfl rfl ?_
  refine a_geta (r := 1) dS_text_64 fl11_10 rfl ly_0 (by omega) (rf_0_0 hR2) ?_
  refine a_aload_n 1 dS_text_67 rfl rfl ?_
  refine a_geta (r := 40) dS_text_68 fl11_23 rfl ly_0 (by omega) (rf_0_2 hR2) ?_
  refine a_geti dS_text_71 fl11_95 rfl ly_40 (by omega) ?_
  rw [show (m_row I2 1 (I2 1)) 40 3 = (nI 0) from (by rw [show m_row I2 1 _ 40 3 = I2 40 3 from rfl, g3, hf0])]
  refine a_puti dS_text_74 fl11_77 rfl ly_1 (by omega) ?_
  rw [show m_up (m_row I2 1 (I2 1)) 1 2 (nI 0) = (m_row I2 1 (va_up (I2 1) 2 (nI 0))) from (by rw [m_up_r])]
  refine a_aload_n 1 dS_text_77 rfl rfl ?_
  refine a_geta (r := 1) dS_text_78 fl11_10 rfl ly_0 (by omega) (rf_0_0 hR2) ?_
  refine a_aload_n 1 dS_text_81 rfl rfl ?_
  refine a_geta (r := 40) dS_text_82 fl11_23 rfl ly_0 (by omega) (rf_0_2 hR2) ?_
  refine a_geti dS_text_85 fl11_96 rfl ly_40 (by omega) ?_
  rw [show (m_row I2 1 (va_up (I2 1) 2 (nI 0))) 40 4 = (-1) from (g4.trans (if_pos hf0))]
  refine a_puti dS_text_88 fl11_80 rfl ly_1 (by omega) ?_
  rw [show m_up (m_row I2 1 (va_up (I2 1) 2 (nI 0))) 1 3 (-1) = (m_row I2 1 (va_up (va_up (I2 1) 2 (nI 0)) 3 (-1))) from (by rw [m_up_r])]
  refine a_aload_n 1 dS_text_91 rfl rfl ?_
  refine a_geta (r := 1) dS_text_92 fl11_10 rfl ly_0 (by omega) (rf_0_0 hR2) ?_
  refine a_geti dS_text_95 fl11_77 rfl ly_1 (by omega) ?_
  rw [show (m_row I2 1 (va_up (va_up (I2 1) 2 (nI 0)) 3 (-1))) 1 2 = (nI 0) from rfl]
  refine a_if_eq (tgt := 103) dS_text_98 (by decide) (fun _ => ?_) (fun c => False.elim (c rfl))
  refine a_aload_n 1 dS_text_103 rfl rfl ?_
  refine a_geta (r := 1) dS_text_104 fl11_10 rfl ly_0 (by omega) (rf_0_0 hR2) ?_
  refine a_iload_n 2 dS_text_107 rfl rfl ?_
  refine a_iload_n 3 dS_text_108 rfl rfl ?_
  refine a_aload_n 1 dS_text_109 rfl rfl ?_
  refine a_geta (r := 40) dS_text_110 fl11_23 rfl ly_0 (by omega) (rf_0_2 hR2) ?_
  refine a_callV (Q' := m_res (some (.int (nI 1))) (cpB (m_up (m_row I2 1 (va_up (va_up (I2 1) 2 (nI 0)) 3 (-1))) 3 2 (nI 2)) 54 36 cplLog) J (m_up R 40 5 (some 2))) (as := [.int (nI 2), .int (-1), .ref 40]) (st := []) dS_text_113 ml11_97 rfl (Nat.le_of_ble_eq_true rfl) ly_1 rfl rfl (by decide) (by omega) (Nat.le_of_ble_eq_true rfl) rfl (Nat.le_refl _) (Nat.le_refl _) (c_take21n (I := (m_row I2 1 (va_up (va_up (I2 1) 2 (nI 0)) 3 (-1)))) hn hR2 (by show I2 3 2 = nI 1; rw [i3]; exact h3)) (m_go ?_)
  show AW _ _ _ _ _ _ _ _ [.int (nI 1)] _ _ _ _
  exact a_iret dS_text_116 rfl ⟨rfl, (cp_off (w := 3) (by unfold cpW; decide) (by omega)).trans ((m_up_ne (by decide)).trans ((m_row_eq).trans (txr_e i1))), (cp_off (w := 3) (by unfold cpW; decide) (by omega)).trans ((m_up_eq).trans (by rw [show (m_row I2 1 (va_up (va_up (I2 1) 2 (nI 0)) 3 (-1))) 3 = I2 3 from rfl, i3])), fun a ha => (cp_off (w := 3) (by unfold cpW; decide) (by omega)).trans ((m_up_ne (by omega)).trans ((m_row_ne (by omega)).trans ((hf a (by omega)).trans (m_row_ne (by omega))))), ⟨c, LD_cp (LD_c H (fun a h1 h2 => (m_up_ne (by omega)).trans (m_row_ne (by omega))))⟩, KF.up40 (KF.refl hR)⟩
theorem q_S_text2oF {S : Nat × (Nat → Int32)} {d n : Nat} {I : mI} {J : mJ} {R : mR} (hn : 122 ≤ n) (hR : m_fin R) {len : Nat} (hlen : I 1 1 = nI len) (hl6 : len ≤ 600) {y : Int32} (hy : ¬ y = -1) (h : f_of y (I 3 2) = 1) {Di : Nat → Int32} (hD : ∀ j, j < 121 → Di j = D0 2 j) (h5 : (rdA (I 2) len 2 (len + 1) 0 (0, 0, -1, -1, Di)).f < 5) (hf0 : ¬ (rdA (I 2) len 2 (len + 1) 0 (0, 0, -1, -1, Di)).f = 0) : AW S (d + 9) YS_text n n (txQ I R (-1) (nI (rdA (I 2) len 2 (len + 1) 0 (0, 0, -1, -1, Di)).f) (nI (rdA (I 2) len 2 (len + 1) 0 (0, 0, -1, -1, Di)).pl) (I 3) 40 0 (fun _ => True)) 0 [(0, .ref 0), (1, .int (nI 2)), (2, .int y)] [] I J R n := by
  refine a_mem (show I = m_row I 1 (I 1) from (m_row_self).symm) ?_
  refine a_aload_n 0 dS_text_0 rfl rfl ?_
  refine a_geta (r := 1) dS_text_1 fl11_10 rfl ly_0 (by omega) (rf_0_0 hR) ?_
  refine a_geti dS_text_4 fl11_69 rfl ly_1 (by omega) ?_
  rw [show (m_row I 1 (I 1)) 1 1 = (nI len) from hlen]
  refine a_istore_n (lv' := [(3, .int (nI len)), (0, .ref 0), (1, .int (nI 2)), (2, .int y)]) dS_text_7 rfl (by decide) rfl ?_
  refine a_aload_n 1 dS_text_8 rfl rfl ?_
  refine a_geta (r := 1) dS_text_9 fl11_10 rfl ly_0 (by omega) (rf_0_0 hR) ?_
  refine a_iconstN (a := 0) dS_text_12 (by decide) ?_
  refine a_puti dS_text_13 fl11_69 rfl ly_1 (by omega) ?_
  rw [show m_up (m_row I 1 (I 1)) 1 1 (nI 0) = (m_row I 1 (va_up (I 1) 1 (nI 0))) from (by rw [m_up_r])]
  refine a_aload_n 1 dS_text_16 rfl rfl ?_
  refine a_geta (r := 1) dS_text_17 fl11_10 rfl ly_0 (by omega) (rf_0_0 hR) ?_
  refine a_iconstN (a := 0) dS_text_20 (by decide) ?_
  refine a_puti dS_text_21 fl11_77 rfl ly_1 (by omega) ?_
  rw [show m_up (m_row I 1 (va_up (I 1) 1 (nI 0))) 1 2 (nI 0) = (m_row I 1 (va_up (va_up (I 1) 1 (nI 0)) 2 (nI 0))) from (by rw [m_up_r])]
  refine a_aload_n 1 dS_text_24 rfl rfl ?_
  refine a_geta (r := 1) dS_text_25 fl11_10 rfl ly_0 (by omega) (rf_0_0 hR) ?_
  refine a_iconst (v := -1) dS_text_28 (by decide) ?_
  refine a_puti dS_text_29 fl11_80 rfl ly_1 (by omega) ?_
  rw [show m_up (m_row I 1 (va_up (va_up (I 1) 1 (nI 0)) 2 (nI 0))) 1 3 (-1) = (m_row I 1 (va_up (va_up (va_up (I 1) 1 (nI 0)) 2 (nI 0)) 3 (-1))) from (by rw [m_up_r])]
  refine a_aload_n 1 dS_text_32 rfl rfl ?_
  refine a_geta (r := 1) dS_text_33 fl11_10 rfl ly_0 (by omega) (rf_0_0 hR) ?_
  refine a_iload_n 2 dS_text_36 rfl rfl ?_
  refine a_iload_n 3 dS_text_37 rfl rfl ?_
  refine a_callV (Q' := m_res (some (.int 1)) (m_row I 1 (va_up (va_up (va_up (I 1) 1 (nI 0)) 2 (nI 0)) 3 (-1))) J R) (as := [.int (nI 2), .int y]) (st := []) dS_text_38 ml11_83 rfl (Nat.le_of_ble_eq_true rfl) ly_1 rfl rfl (by decide) (by omega) (Nat.le_of_ble_eq_true rfl) rfl (Nat.le_refl _) (Nat.le_refl _) (by have q := c_may2o (S := S) (d := d + 7) (n := n) (I := (m_row I 1 (va_up (va_up (va_up (I 1) 1 (nI 0)) 2 (nI 0)) 3 (-1)))) (J := J) (R := R) hn hR (y := y) hy; rw [show (m_row I 1 (va_up (va_up (va_up (I 1) 1 (nI 0)) 2 (nI 0)) 3 (-1))) 3 2 = I 3 2 from rfl, h] at q; exact q) (m_go ?_)
  show AW _ _ _ _ _ _ _ _ [.int 1] _ _ _ _
  refine a_if_ne (tgt := 47) dS_text_41 (by decide) (fun _ => ?_) (fun c => False.elim (absurd c (by decide)))
  refine a_aload_n 1 dS_text_47 rfl rfl ?_
  refine a_geta (r := 40) dS_text_48 fl11_23 rfl ly_0 (by omega) (rf_0_2 hR) ?_
  refine a_iload_n 2 dS_text_51 rfl rfl ?_
  refine a_aload_n 1 dS_text_52 rfl rfl ?_
  refine a_geta (r := 1) dS_text_53 fl11_10 rfl ly_0 (by omega) (rf_0_0 hR) ?_
  refine a_geta (r := 2) dS_text_56 fl11_87 rfl ly_1 (by omega) (rf_1_0 hR) ?_
  refine a_iload_n 0 dS_text_59 rfl rfl ?_
  refine a_callV (Q' := rdQ (m_row I 1 (va_up (va_up (va_up (I 1) 1 (nI 0)) 2 (nI 0)) 3 (-1))) J R 2 (rdA (I 2) len 2 (len + 1) 0 (0, 0, -1, -1, Di))) (as := [.int (nI 2), .ref 2, .int (nI len)]) (st := []) dS_text_60 ml11_91 rfl (Nat.le_of_ble_eq_true rfl) ly_40 rfl rfl (by decide) (by omega) (Nat.le_of_ble_eq_true rfl) rfl (Nat.le_refl _) (Nat.le_refl _) (c_read (I := (m_row I 1 (va_up (va_up (va_up (I 1) 1 (nI 0)) 2 (nI 0)) 3 (-1)))) hn hR hl6 (by decide) hD) ?_
  intro v I2 J2 R2 ⟨e0, e1, e2, hf, g3, g4, hd⟩
  rw [e0, e1, e2]
  have hR2 : m_fin (m_up R 40 5 (some 2)) := fin_40 hR
  have i1 : I2 1 = va_up (va_up (va_up (I 1) 1 (nI 0)) 2 (nI 0)) 3 (-1) := hf 1 (by omega)
  have i3 : I2 3 = I 3 := hf 3 (by omega)
  refine a_mem (show I2 = m_row I2 1 (I2 1) from (m_row_self).symm) ?_
  show AW _ _ _ _ _ _ _ _ [] _ _ _ _
  have hz : ¬ nI (rdA (I 2) len 2 (len + 1) 0 (0, 0, -1, -1, Di)).f = 0 := fun q => hf0 (by rw [show (0 : Int32) = nI 0 from rfl, nI_eq (by have := h5; omega) (by decide)] at q; exact q)
  refine a_aload_n 1 dS_text_63 rfl rfl ?_
  refine a_geta (r := 1) dS_text_64 fl11_10 rfl ly_0 (by omega) (rf_0_0 hR2) ?_
  refine a_aload_n 1 dS_text_67 rfl rfl ?_
  refine a_geta (r := 40) dS_text_68 fl11_23 rfl ly_0 (by omega) (rf_0_2 hR2) ?_
  refine a_geti dS_text_71 fl11_95 rfl ly_40 (by omega) ?_
  rw [show (m_row I2 1 (I2 1)) 40 3 = (nI (rdA (I 2) len 2 (len + 1) 0 (0, 0, -1, -1, Di)).f) from g3]
  refine a_puti dS_text_74 fl11_77 rfl ly_1 (by omega) ?_
  rw [show m_up (m_row I2 1 (I2 1)) 1 2 (nI (rdA (I 2) len 2 (len + 1) 0 (0, 0, -1, -1, Di)).f) = (m_row I2 1 (va_up (I2 1) 2 (nI (rdA (I 2) len 2 (len + 1) 0 (0, 0, -1, -1, Di)).f))) from (by rw [m_up_r])]
  refine a_aload_n 1 dS_text_77 rfl rfl ?_
  refine a_geta (r := 1) dS_text_78 fl11_10 rfl ly_0 (by omega) (rf_0_0 hR2) ?_
  refine a_aload_n 1 dS_text_81 rfl rfl ?_
  refine a_geta (r := 40) dS_text_82 fl11_23 rfl ly_0 (by omega) (rf_0_2 hR2) ?_
  refine a_geti dS_text_85 fl11_96 rfl ly_40 (by omega) ?_
  rw [show (m_row I2 1 (va_up (I2 1) 2 (nI (rdA (I 2) len 2 (len + 1) 0 (0, 0, -1, -1, Di)).f))) 40 4 = (nI (rdA (I 2) len 2 (len + 1) 0 (0, 0, -1, -1, Di)).pl) from (g4.trans (if_neg hf0))]
  refine a_puti dS_text_88 fl11_80 rfl ly_1 (by omega) ?_
  rw [show m_up (m_row I2 1 (va_up (I2 1) 2 (nI (rdA (I 2) len 2 (len + 1) 0 (0, 0, -1, -1, Di)).f))) 1 3 (nI (rdA (I 2) len 2 (len + 1) 0 (0, 0, -1, -1, Di)).pl) = (m_row I2 1 (va_up (va_up (I2 1) 2 (nI (rdA (I 2) len 2 (len + 1) 0 (0, 0, -1, -1, Di)).f)) 3 (nI (rdA (I 2) len 2 (len + 1) 0 (0, 0, -1, -1, Di)).pl))) from (by rw [m_up_r])]
  refine a_aload_n 1 dS_text_91 rfl rfl ?_
  refine a_geta (r := 1) dS_text_92 fl11_10 rfl ly_0 (by omega) (rf_0_0 hR2) ?_
  refine a_geti dS_text_95 fl11_77 rfl ly_1 (by omega) ?_
  rw [show (m_row I2 1 (va_up (va_up (I2 1) 2 (nI (rdA (I 2) len 2 (len + 1) 0 (0, 0, -1, -1, Di)).f)) 3 (nI (rdA (I 2) len 2 (len + 1) 0 (0, 0, -1, -1, Di)).pl))) 1 2 = (nI (rdA (I 2) len 2 (len + 1) 0 (0, 0, -1, -1, Di)).f) from rfl]
  refine a_if_eq (tgt := 103) dS_text_98 (by decide) (fun c => False.elim (hz c)) (fun _ => ?_)
  refine a_iconst (v := -1) dS_text_101 (by decide) ?_
  exact a_iret dS_text_102 rfl ⟨rfl, (m_row_eq).trans (txr_e i1), i3, fun a ha => (m_row_ne (by omega)).trans ((hf a (by omega)).trans (m_row_ne (by omega))), trivial, KF.up40 (KF.refl hR)⟩
theorem q_S_text2o0 {S : Nat × (Nat → Int32)} {d n : Nat} {I : mI} {J : mJ} {R : mR} (hn : 122 ≤ n) (hR : m_fin R) {len : Nat} (hlen : I 1 1 = nI len) (hl6 : len ≤ 600) (h1 : f_of (nI 0) (I 3 2) = 1) {Di : Nat → Int32} (hD : ∀ j, j < 121 → Di j = D0 2 j) (hf0 : (rdA (I 2) len 2 (len + 1) 0 (0, 0, -1, -1, Di)).f = 0) : AW S (d + 9) YS_text n n (txQ I R (nI 0) (nI 0) (-1) (I 3) 33 35 (fun X => ∃ c, LD X 33 (rdA (I 2) len 2 (len + 1) 0 (0, 0, -1, -1, Di)).D c)) 0 [(0, .ref 0), (1, .int (nI 2)), (2, .int (nI 0))] [] I J R n := by
  refine a_mem (show I = m_row I 1 (I 1) from (m_row_self).symm) ?_
  refine a_aload_n 0 dS_text_0 rfl rfl ?_
  refine a_geta (r := 1) dS_text_1 fl11_10 rfl ly_0 (by omega) (rf_0_0 hR) ?_
  refine a_geti dS_text_4 fl11_69 rfl ly_1 (by omega) ?_
  rw [show (m_row I 1 (I 1)) 1 1 = (nI len) from hlen]
  refine a_istore_n (lv' := [(3, .int (nI len)), (0, .ref 0), (1, .int (nI 2)), (2, .int (nI 0))]) dS_text_7 rfl (by decide) rfl ?_
  refine a_aload_n 1 dS_text_8 rfl rfl ?_
  refine a_geta (r := 1) dS_text_9 fl11_10 rfl ly_0 (by omega) (rf_0_0 hR) ?_
  refine a_iconstN (a := 0) dS_text_12 (by decide) ?_
  refine a_puti dS_text_13 fl11_69 rfl ly_1 (by omega) ?_
  rw [show m_up (m_row I 1 (I 1)) 1 1 (nI 0) = (m_row I 1 (va_up (I 1) 1 (nI 0))) from (by rw [m_up_r])]
  refine a_aload_n 1 dS_text_16 rfl rfl ?_
  refine a_geta (r := 1) dS_text_17 fl11_10 rfl ly_0 (by omega) (rf_0_0 hR) ?_
  refine a_iconstN (a := 0) dS_text_20 (by decide) ?_
  refine a_puti dS_text_21 fl11_77 rfl ly_1 (by omega) ?_
  rw [show m_up (m_row I 1 (va_up (I 1) 1 (nI 0))) 1 2 (nI 0) = (m_row I 1 (va_up (va_up (I 1) 1 (nI 0)) 2 (nI 0))) from (by rw [m_up_r])]
  refine a_aload_n 1 dS_text_24 rfl rfl ?_
  refine a_geta (r := 1) dS_text_25 fl11_10 rfl ly_0 (by omega) (rf_0_0 hR) ?_
  refine a_iconst (v := -1) dS_text_28 (by decide) ?_
  refine a_puti dS_text_29 fl11_80 rfl ly_1 (by omega) ?_
  rw [show m_up (m_row I 1 (va_up (va_up (I 1) 1 (nI 0)) 2 (nI 0))) 1 3 (-1) = (m_row I 1 (va_up (va_up (va_up (I 1) 1 (nI 0)) 2 (nI 0)) 3 (-1))) from (by rw [m_up_r])]
  refine a_aload_n 1 dS_text_32 rfl rfl ?_
  refine a_geta (r := 1) dS_text_33 fl11_10 rfl ly_0 (by omega) (rf_0_0 hR) ?_
  refine a_iload_n 2 dS_text_36 rfl rfl ?_
  refine a_iload_n 3 dS_text_37 rfl rfl ?_
  refine a_callV (Q' := m_res (some (.int 1)) (m_row I 1 (va_up (va_up (va_up (I 1) 1 (nI 0)) 2 (nI 0)) 3 (-1))) J R) (as := [.int (nI 2), .int (nI 0)]) (st := []) dS_text_38 ml11_83 rfl (Nat.le_of_ble_eq_true rfl) ly_1 rfl rfl (by decide) (by omega) (Nat.le_of_ble_eq_true rfl) rfl (Nat.le_refl _) (Nat.le_refl _) (by have q := c_may2o (S := S) (d := d + 7) (n := n) (I := (m_row I 1 (va_up (va_up (va_up (I 1) 1 (nI 0)) 2 (nI 0)) 3 (-1)))) (J := J) (R := R) hn hR (y := nI 0) (by decide); rw [show (m_row I 1 (va_up (va_up (va_up (I 1) 1 (nI 0)) 2 (nI 0)) 3 (-1))) 3 2 = I 3 2 from rfl, h1] at q; exact q) (m_go ?_)
  show AW _ _ _ _ _ _ _ _ [.int 1] _ _ _ _
  refine a_if_ne (tgt := 47) dS_text_41 (by decide) (fun _ => ?_) (fun c => False.elim (absurd c (by decide)))
  refine a_aload_n 1 dS_text_47 rfl rfl ?_
  refine a_geta (r := 40) dS_text_48 fl11_23 rfl ly_0 (by omega) (rf_0_2 hR) ?_
  refine a_iload_n 2 dS_text_51 rfl rfl ?_
  refine a_aload_n 1 dS_text_52 rfl rfl ?_
  refine a_geta (r := 1) dS_text_53 fl11_10 rfl ly_0 (by omega) (rf_0_0 hR) ?_
  refine a_geta (r := 2) dS_text_56 fl11_87 rfl ly_1 (by omega) (rf_1_0 hR) ?_
  refine a_iload_n 0 dS_text_59 rfl rfl ?_
  refine a_callV (Q' := rdQ (m_row I 1 (va_up (va_up (va_up (I 1) 1 (nI 0)) 2 (nI 0)) 3 (-1))) J R 2 (rdA (I 2) len 2 (len + 1) 0 (0, 0, -1, -1, Di))) (as := [.int (nI 2), .ref 2, .int (nI len)]) (st := []) dS_text_60 ml11_91 rfl (Nat.le_of_ble_eq_true rfl) ly_40 rfl rfl (by decide) (by omega) (Nat.le_of_ble_eq_true rfl) rfl (Nat.le_refl _) (Nat.le_refl _) (c_read (I := (m_row I 1 (va_up (va_up (va_up (I 1) 1 (nI 0)) 2 (nI 0)) 3 (-1)))) hn hR hl6 (by decide) hD) ?_
  intro v I2 J2 R2 ⟨e0, e1, e2, hf, g3, g4, hd⟩
  rw [e0, e1, e2]
  have hR2 : m_fin (m_up R 40 5 (some 2)) := fin_40 hR
  have i1 : I2 1 = va_up (va_up (va_up (I 1) 1 (nI 0)) 2 (nI 0)) 3 (-1) := hf 1 (by omega)
  have i3 : I2 3 = I 3 := hf 3 (by omega)
  refine a_mem (show I2 = m_row I2 1 (I2 1) from (m_row_self).symm) ?_
  show AW _ _ _ _ _ _ _ _ [] _ _ _ _
  obtain ⟨c, H⟩ := hd hf0
  refine a_aload_n 1 dS_text_63 rfl rfl ?_
  refine a_geta (r := 1) dS_text_64 fl11_10 rfl ly_0 (by omega) (rf_0_0 hR2) ?_
  refine a_aload_n 1 dS_text_67 rfl rfl ?_
  refine a_geta (r := 40) dS_text_68 fl11_23 rfl ly_0 (by omega) (rf_0_2 hR2) ?_
  refine a_geti dS_text_71 fl11_95 rfl ly_40 (by omega) ?_
  rw [show (m_row I2 1 (I2 1)) 40 3 = (nI 0) from (by rw [show m_row I2 1 _ 40 3 = I2 40 3 from rfl, g3, hf0])]
  refine a_puti dS_text_74 fl11_77 rfl ly_1 (by omega) ?_
  rw [show m_up (m_row I2 1 (I2 1)) 1 2 (nI 0) = (m_row I2 1 (va_up (I2 1) 2 (nI 0))) from (by rw [m_up_r])]
  refine a_aload_n 1 dS_text_77 rfl rfl ?_
  refine a_geta (r := 1) dS_text_78 fl11_10 rfl ly_0 (by omega) (rf_0_0 hR2) ?_
  refine a_aload_n 1 dS_text_81 rfl rfl ?_
  refine a_geta (r := 40) dS_text_82 fl11_23 rfl ly_0 (by omega) (rf_0_2 hR2) ?_
  refine a_geti dS_text_85 fl11_96 rfl ly_40 (by omega) ?_
  rw [show (m_row I2 1 (va_up (I2 1) 2 (nI 0))) 40 4 = (-1) from (g4.trans (if_pos hf0))]
  refine a_puti dS_text_88 fl11_80 rfl ly_1 (by omega) ?_
  rw [show m_up (m_row I2 1 (va_up (I2 1) 2 (nI 0))) 1 3 (-1) = (m_row I2 1 (va_up (va_up (I2 1) 2 (nI 0)) 3 (-1))) from (by rw [m_up_r])]
  refine a_aload_n 1 dS_text_91 rfl rfl ?_
  refine a_geta (r := 1) dS_text_92 fl11_10 rfl ly_0 (by omega) (rf_0_0 hR2) ?_
  refine a_geti dS_text_95 fl11_77 rfl ly_1 (by omega) ?_
  rw [show (m_row I2 1 (va_up (va_up (I2 1) 2 (nI 0)) 3 (-1))) 1 2 = (nI 0) from rfl]
  refine a_if_eq (tgt := 103) dS_text_98 (by decide) (fun _ => ?_) (fun c => False.elim (c rfl))
  refine a_aload_n 1 dS_text_103 rfl rfl ?_
  refine a_geta (r := 1) dS_text_104 fl11_10 rfl ly_0 (by omega) (rf_0_0 hR2) ?_
  refine a_iload_n 2 dS_text_107 rfl rfl ?_
  refine a_iload_n 3 dS_text_108 rfl rfl ?_
  refine a_aload_n 1 dS_text_109 rfl rfl ?_
  refine a_geta (r := 40) dS_text_110 fl11_23 rfl ly_0 (by omega) (rf_0_2 hR2) ?_
  refine a_callV (Q' := m_res (some (.int (nI 0))) (cpB (m_row I2 1 (va_up (va_up (I2 1) 2 (nI 0)) 3 (-1))) 54 33 cplLog) J (m_up R 40 5 (some 2))) (as := [.int (nI 2), .int (nI 0), .ref 40]) (st := []) dS_text_113 ml11_97 rfl (Nat.le_of_ble_eq_true rfl) ly_1 rfl rfl (by decide) (by omega) (Nat.le_of_ble_eq_true rfl) rfl (Nat.le_refl _) (Nat.le_refl _) (c_take20o (I := (m_row I2 1 (va_up (va_up (I2 1) 2 (nI 0)) 3 (-1)))) hn hR2 (by show f_of (nI 0) (I2 3 2) = 1; rw [i3]; exact h1)) (m_go ?_)
  show AW _ _ _ _ _ _ _ _ [.int (nI 0)] _ _ _ _
  exact a_iret dS_text_116 rfl ⟨rfl, (cp_off (w := 3) (by unfold cpW; decide) (by omega)).trans (((m_row_eq).trans (txr_e i1))), (cp_off (w := 3) (by unfold cpW; decide) (by omega)).trans ((m_row_ne (by decide)).trans i3), fun a ha => (cp_off (w := 3) (by unfold cpW; decide) (by omega)).trans (((m_row_ne (by omega)).trans ((hf a (by omega)).trans (m_row_ne (by omega))))), ⟨c, LD_cp (LD_c H (fun a h1 h2 => m_row_ne (by omega)))⟩, KF.up40 (KF.refl hR)⟩
theorem q_S_text2o1 {S : Nat × (Nat → Int32)} {d n : Nat} {I : mI} {J : mJ} {R : mR} (hn : 122 ≤ n) (hR : m_fin R) {len : Nat} (hlen : I 1 1 = nI len) (hl6 : len ≤ 600) (h1 : f_of (nI 1) (I 3 2) = 1) {Di : Nat → Int32} (hD : ∀ j, j < 121 → Di j = D0 2 j) (hf0 : (rdA (I 2) len 2 (len + 1) 0 (0, 0, -1, -1, Di)).f = 0) : AW S (d + 9) YS_text n n (txQ I R (nI 1) (nI 0) (-1) (I 3) 36 38 (fun X => ∃ c, LD X 36 (rdA (I 2) len 2 (len + 1) 0 (0, 0, -1, -1, Di)).D c)) 0 [(0, .ref 0), (1, .int (nI 2)), (2, .int (nI 1))] [] I J R n := by
  refine a_mem (show I = m_row I 1 (I 1) from (m_row_self).symm) ?_
  refine a_aload_n 0 dS_text_0 rfl rfl ?_
  refine a_geta (r := 1) dS_text_1 fl11_10 rfl ly_0 (by omega) (rf_0_0 hR) ?_
  refine a_geti dS_text_4 fl11_69 rfl ly_1 (by omega) ?_
  rw [show (m_row I 1 (I 1)) 1 1 = (nI len) from hlen]
  refine a_istore_n (lv' := [(3, .int (nI len)), (0, .ref 0), (1, .int (nI 2)), (2, .int (nI 1))]) dS_text_7 rfl (by decide) rfl ?_
  refine a_aload_n 1 dS_text_8 rfl rfl ?_
  refine a_geta (r := 1) dS_text_9 fl11_10 rfl ly_0 (by omega) (rf_0_0 hR) ?_
  refine a_iconstN (a := 0) dS_text_12 (by decide) ?_
  refine a_puti dS_text_13 fl11_69 rfl ly_1 (by omega) ?_
  rw [show m_up (m_row I 1 (I 1)) 1 1 (nI 0) = (m_row I 1 (va_up (I 1) 1 (nI 0))) from (by rw [m_up_r])]
  refine a_aload_n 1 dS_text_16 rfl rfl ?_
  refine a_geta (r := 1) dS_text_17 fl11_10 rfl ly_0 (by omega) (rf_0_0 hR) ?_
  refine a_iconstN (a := 0) dS_text_20 (by decide) ?_
  refine a_puti dS_text_21 fl11_77 rfl ly_1 (by omega) ?_
  rw [show m_up (m_row I 1 (va_up (I 1) 1 (nI 0))) 1 2 (nI 0) = (m_row I 1 (va_up (va_up (I 1) 1 (nI 0)) 2 (nI 0))) from (by rw [m_up_r])]
  refine a_aload_n 1 dS_text_24 rfl rfl ?_
  refine a_geta (r := 1) dS_text_25 fl11_10 rfl ly_0 (by omega) (rf_0_0 hR) ?_
  refine a_iconst (v := -1) dS_text_28 (by decide) ?_
  refine a_puti dS_text_29 fl11_80 rfl ly_1 (by omega) ?_
  rw [show m_up (m_row I 1 (va_up (va_up (I 1) 1 (nI 0)) 2 (nI 0))) 1 3 (-1) = (m_row I 1 (va_up (va_up (va_up (I 1) 1 (nI 0)) 2 (nI 0)) 3 (-1))) from (by rw [m_up_r])]
  refine a_aload_n 1 dS_text_32 rfl rfl ?_
  refine a_geta (r := 1) dS_text_33 fl11_10 rfl ly_0 (by omega) (rf_0_0 hR) ?_
  refine a_iload_n 2 dS_text_36 rfl rfl ?_
  refine a_iload_n 3 dS_text_37 rfl rfl ?_
  refine a_callV (Q' := m_res (some (.int 1)) (m_row I 1 (va_up (va_up (va_up (I 1) 1 (nI 0)) 2 (nI 0)) 3 (-1))) J R) (as := [.int (nI 2), .int (nI 1)]) (st := []) dS_text_38 ml11_83 rfl (Nat.le_of_ble_eq_true rfl) ly_1 rfl rfl (by decide) (by omega) (Nat.le_of_ble_eq_true rfl) rfl (Nat.le_refl _) (Nat.le_refl _) (by have q := c_may2o (S := S) (d := d + 7) (n := n) (I := (m_row I 1 (va_up (va_up (va_up (I 1) 1 (nI 0)) 2 (nI 0)) 3 (-1)))) (J := J) (R := R) hn hR (y := nI 1) (by decide); rw [show (m_row I 1 (va_up (va_up (va_up (I 1) 1 (nI 0)) 2 (nI 0)) 3 (-1))) 3 2 = I 3 2 from rfl, h1] at q; exact q) (m_go ?_)
  show AW _ _ _ _ _ _ _ _ [.int 1] _ _ _ _
  refine a_if_ne (tgt := 47) dS_text_41 (by decide) (fun _ => ?_) (fun c => False.elim (absurd c (by decide)))
  refine a_aload_n 1 dS_text_47 rfl rfl ?_
  refine a_geta (r := 40) dS_text_48 fl11_23 rfl ly_0 (by omega) (rf_0_2 hR) ?_
  refine a_iload_n 2 dS_text_51 rfl rfl ?_
  refine a_aload_n 1 dS_text_52 rfl rfl ?_
  refine a_geta (r := 1) dS_text_53 fl11_10 rfl ly_0 (by omega) (rf_0_0 hR) ?_
  refine a_geta (r := 2) dS_text_56 fl11_87 rfl ly_1 (by omega) (rf_1_0 hR) ?_
  refine a_iload_n 0 dS_text_59 rfl rfl ?_
  refine a_callV (Q' := rdQ (m_row I 1 (va_up (va_up (va_up (I 1) 1 (nI 0)) 2 (nI 0)) 3 (-1))) J R 2 (rdA (I 2) len 2 (len + 1) 0 (0, 0, -1, -1, Di))) (as := [.int (nI 2), .ref 2, .int (nI len)]) (st := []) dS_text_60 ml11_91 rfl (Nat.le_of_ble_eq_true rfl) ly_40 rfl rfl (by decide) (by omega) (Nat.le_of_ble_eq_true rfl) rfl (Nat.le_refl _) (Nat.le_refl _) (c_read (I := (m_row I 1 (va_up (va_up (va_up (I 1) 1 (nI 0)) 2 (nI 0)) 3 (-1)))) hn hR hl6 (by decide) hD) ?_
  intro v I2 J2 R2 ⟨e0, e1, e2, hf, g3, g4, hd⟩
  rw [e0, e1, e2]
  have hR2 : m_fin (m_up R 40 5 (some 2)) := fin_40 hR
  have i1 : I2 1 = va_up (va_up (va_up (I 1) 1 (nI 0)) 2 (nI 0)) 3 (-1) := hf 1 (by omega)
  have i3 : I2 3 = I 3 := hf 3 (by omega)
  refine a_mem (show I2 = m_row I2 1 (I2 1) from (m_row_self).symm) ?_
  show AW _ _ _ _ _ _ _ _ [] _ _ _ _
  obtain ⟨c, H⟩ := hd hf0
  refine a_aload_n 1 dS_text_63 rfl rfl ?_
  refine a_geta (r := 1) dS_text_64 fl11_10 rfl ly_0 (by omega) (rf_0_0 hR2) ?_
  refine a_aload_n 1 dS_text_67 rfl rfl ?_
  refine a_geta (r := 40) dS_text_68 fl11_23 rfl ly_0 (by omega) (rf_0_2 hR2) ?_
  refine a_geti dS_text_71 fl11_95 rfl ly_40 (by omega) ?_
  rw [show (m_row I2 1 (I2 1)) 40 3 = (nI 0) from (by rw [show m_row I2 1 _ 40 3 = I2 40 3 from rfl, g3, hf0])]
  refine a_puti dS_text_74 fl11_77 rfl ly_1 (by omega) ?_
  rw [show m_up (m_row I2 1 (I2 1)) 1 2 (nI 0) = (m_row I2 1 (va_up (I2 1) 2 (nI 0))) from (by rw [m_up_r])]
  refine a_aload_n 1 dS_text_77 rfl rfl ?_
  refine a_geta (r := 1) dS_text_78 fl11_10 rfl ly_0 (by omega) (rf_0_0 hR2) ?_
  refine a_aload_n 1 dS_text_81 rfl rfl ?_
  refine a_geta (r := 40) dS_text_82 fl11_23 rfl ly_0 (by omega) (rf_0_2 hR2) ?_
  refine a_geti dS_text_85 fl11_96 rfl ly_40 (by omega) ?_
  rw [show (m_row I2 1 (va_up (I2 1) 2 (nI 0))) 40 4 = (-1) from (g4.trans (if_pos hf0))]
  refine a_puti dS_text_88 fl11_80 rfl ly_1 (by omega) ?_
  rw [show m_up (m_row I2 1 (va_up (I2 1) 2 (nI 0))) 1 3 (-1) = (m_row I2 1 (va_up (va_up (I2 1) 2 (nI 0)) 3 (-1))) from (by rw [m_up_r])]
  refine a_aload_n 1 dS_text_91 rfl rfl ?_
  refine a_geta (r := 1) dS_text_92 fl11_10 rfl ly_0 (by omega) (rf_0_0 hR2) ?_
  refine a_geti dS_text_95 fl11_77 rfl ly_1 (by omega) ?_
  rw [show (m_row I2 1 (va_up (va_up (I2 1) 2 (nI 0)) 3 (-1))) 1 2 = (nI 0) from rfl]
  refine a_if_eq (tgt := 103) dS_text_98 (by decide) (fun _ => ?_) (fun c => False.elim (c rfl))
  refine a_aload_n 1 dS_text_103 rfl rfl ?_
  refine a_geta (r := 1) dS_text_104 fl11_10 rfl ly_0 (by omega) (rf_0_0 hR2) ?_
  refine a_iload_n 2 dS_text_107 rfl rfl ?_
  refine a_iload_n 3 dS_text_108 rfl rfl ?_
  refine a_aload_n 1 dS_text_109 rfl rfl ?_
  refine a_geta (r := 40) dS_text_110 fl11_23 rfl ly_0 (by omega) (rf_0_2 hR2) ?_
  refine a_callV (Q' := m_res (some (.int (nI 1))) (cpB (m_row I2 1 (va_up (va_up (I2 1) 2 (nI 0)) 3 (-1))) 54 36 cplLog) J (m_up R 40 5 (some 2))) (as := [.int (nI 2), .int (nI 1), .ref 40]) (st := []) dS_text_113 ml11_97 rfl (Nat.le_of_ble_eq_true rfl) ly_1 rfl rfl (by decide) (by omega) (Nat.le_of_ble_eq_true rfl) rfl (Nat.le_refl _) (Nat.le_refl _) (c_take21o (I := (m_row I2 1 (va_up (va_up (I2 1) 2 (nI 0)) 3 (-1)))) hn hR2 (by show f_of (nI 1) (I2 3 2) = 1; rw [i3]; exact h1)) (m_go ?_)
  show AW _ _ _ _ _ _ _ _ [.int (nI 1)] _ _ _ _
  exact a_iret dS_text_116 rfl ⟨rfl, (cp_off (w := 3) (by unfold cpW; decide) (by omega)).trans (((m_row_eq).trans (txr_e i1))), (cp_off (w := 3) (by unfold cpW; decide) (by omega)).trans ((m_row_ne (by decide)).trans i3), fun a ha => (cp_off (w := 3) (by unfold cpW; decide) (by omega)).trans (((m_row_ne (by omega)).trans ((hf a (by omega)).trans (m_row_ne (by omega))))), ⟨c, LD_cp (LD_c H (fun a h1 h2 => m_row_ne (by omega)))⟩, KF.up40 (KF.refl hR)⟩
