theorem q_M_ruled0 {S : Nat × (Nat → Int32)} {d n : Nat} {I : mI} {J : mJ} {R : mR} (hn : 122 ≤ n) (hR : m_fin R) {x : Int32} (h0 : f_in x 0 (I 100 0 - 1) = 0) {y : Int32}  : AW S (d + 10) YM_ruled n n (qV I R (.int (-1))) 0 [(0, .ref 95), (1, .int x), (2, .int y)] [] I J R n := by
  refine a_aload_n 0 dM_ruled_0 rfl rfl ?_
  refine a_iconstN (a := 0) dM_ruled_1 (by decide) ?_
  refine a_puti dM_ruled_2 fl12_90 rfl ly_95 (by omega) ?_
  refine a_aload_n 0 dM_ruled_5 rfl rfl ?_
  refine a_iload_n 1 dM_ruled_6 rfl rfl ?_
  refine a_callV (Q' := m_res (some (.int 0)) (m_up I 95 0 (nI 0)) J R) (as := [.int x]) (st := []) dM_ruled_7 ml12_277 rfl (Nat.le_of_ble_eq_true rfl) ly_95 rfl rfl (by decide) (by omega) (Nat.le_of_ble_eq_true rfl) rfl (Nat.le_refl _) (Nat.le_refl _) (c_M_hand0 (I := cdI I) hn hR h0) (m_go ?_)
  show AW _ _ _ _ _ _ _ _ [.int 0] _ _ _ _
  refine a_if_ne (tgt := 15) dM_ruled_10 (by decide) (fun c => False.elim (absurd rfl c)) (fun _ => ?_)
  refine a_iconst (v := -1) dM_ruled_13 (by decide) ?_
  exact a_iret dM_ruled_14 rfl ⟨rfl, (KP.up KP.refl (by omega)), (KF.refl hR)⟩
theorem q_M_ruledC {S : Nat × (Nat → Int32)} {d n : Nat} {I : mI} {J : mJ} {R : mR} (hn : 122 ≤ n) (hR : m_fin R) {ko nh nl : Nat} (hk : ko < 2) (h1 : f_in (nI ko) 0 (I 100 0 - 1) = 1) (hh : oR I ko 0 = nI nh) (hnh : nh ≤ 6) (hl : oR I ko 1 = nI nl) (hnl : nl ≤ 10) (hW : WFk I ko) (hH : WFh (fun l => oR I ko (9 + l)) nl)  : AW S (d + 10) YM_ruled n n (qV I R (.int (nI (couC (hdI (cdI I) ko) ko 0 nl)))) 0 [(0, .ref 95), (1, .int (nI ko)), (2, .int (nI 0))] [] I J R n := by
  refine a_aload_n 0 dM_ruled_0 rfl rfl ?_
  refine a_iconstN (a := 0) dM_ruled_1 (by decide) ?_
  refine a_puti dM_ruled_2 fl12_90 rfl ly_95 (by omega) ?_
  refine a_aload_n 0 dM_ruled_5 rfl rfl ?_
  refine a_iload_n 1 dM_ruled_6 rfl rfl ?_
  refine a_callV (Q' := m_res (some (.int 1)) (hdI (cdI I) ko) J R) (as := [.int (nI ko)]) (st := []) dM_ruled_7 ml12_277 rfl (Nat.le_of_ble_eq_true rfl) ly_95 rfl rfl (by decide) (by omega) (Nat.le_of_ble_eq_true rfl) rfl (Nat.le_refl _) (Nat.le_refl _) (c_M_hand (I := cdI I) hn hR (by omega) h1) (m_go ?_)
  show AW _ _ _ _ _ _ _ _ [.int 1] _ _ _ _
  refine a_if_ne (tgt := 15) dM_ruled_10 (by decide) (fun _ => ?_) (fun c => False.elim (absurd c (by decide)))
  refine a_iload_n 2 dM_ruled_15 rfl rfl ?_
  refine a_tab (c := 0) (off := 32) (tgt := 48) dM_ruled_16 rfl (by decide) (by decide) (by decide) (by decide) ?_
  refine a_aload_n 0 dM_ruled_48 rfl rfl ?_
  refine a_callV (Q' := m_res (some (.int (nI (couC (hdI (cdI I) ko) ko 0 nl)))) (hdI (cdI I) ko) J R) (as := []) (st := []) dM_ruled_49 ml12_491 rfl (Nat.le_of_ble_eq_true rfl) ly_95 rfl rfl (by decide) (by omega) (Nat.le_of_ble_eq_true rfl) rfl (Nat.le_refl _) (Nat.le_refl _) (c_M_couples (I := (hdI (cdI I) ko)) hn hR hd_23 (by omega) (hc24 hh) hnh (hc25 hl) hnl hW.hd) (m_go ?_)
  show AW _ _ _ _ _ _ _ _ [.int (nI (couC (hdI (cdI I) ko) ko 0 nl))] _ _ _ _
  exact a_iret dM_ruled_52 rfl ⟨rfl, hcP, (KF.refl hR)⟩
theorem q_M_ruledF {S : Nat × (Nat → Int32)} {d n : Nat} {I : mI} {J : mJ} {R : mR} (hn : 122 ≤ n) (hR : m_fin R) {ko nh nl : Nat} (hk : ko < 2) (h1 : f_in (nI ko) 0 (I 100 0 - 1) = 1) (hh : oR I ko 0 = nI nh) (hnh : nh ≤ 6) (hl : oR I ko 1 = nI nl) (hnl : nl ≤ 10) (hW : WFk I ko) (hH : WFh (fun l => oR I ko (9 + l)) nl) (hM : WFm I ko nl)  : AW S (d + 10) YM_ruled n n (qV I R (.int (fwN (hdI (cdI I) ko) ko (nI 0) nl))) 0 [(0, .ref 95), (1, .int (nI ko)), (2, .int (nI 1))] [] I J R n := by
  refine a_aload_n 0 dM_ruled_0 rfl rfl ?_
  refine a_iconstN (a := 0) dM_ruled_1 (by decide) ?_
  refine a_puti dM_ruled_2 fl12_90 rfl ly_95 (by omega) ?_
  refine a_aload_n 0 dM_ruled_5 rfl rfl ?_
  refine a_iload_n 1 dM_ruled_6 rfl rfl ?_
  refine a_callV (Q' := m_res (some (.int 1)) (hdI (cdI I) ko) J R) (as := [.int (nI ko)]) (st := []) dM_ruled_7 ml12_277 rfl (Nat.le_of_ble_eq_true rfl) ly_95 rfl rfl (by decide) (by omega) (Nat.le_of_ble_eq_true rfl) rfl (Nat.le_refl _) (Nat.le_refl _) (c_M_hand (I := cdI I) hn hR (by omega) h1) (m_go ?_)
  show AW _ _ _ _ _ _ _ _ [.int 1] _ _ _ _
  refine a_if_ne (tgt := 15) dM_ruled_10 (by decide) (fun _ => ?_) (fun c => False.elim (absurd c (by decide)))
  refine a_iload_n 2 dM_ruled_15 rfl rfl ?_
  refine a_tab (c := 1) (off := 37) (tgt := 53) dM_ruled_16 rfl (by decide) (by decide) (by decide) (by decide) ?_
  refine a_aload_n 0 dM_ruled_53 rfl rfl ?_
  refine a_callV (Q' := m_res (some (.int (fwN (hdI (cdI I) ko) ko (nI 0) nl))) (hdI (cdI I) ko) J R) (as := []) (st := []) dM_ruled_54 ml12_494 rfl (Nat.le_of_ble_eq_true rfl) ly_95 rfl rfl (by decide) (by omega) (Nat.le_of_ble_eq_true rfl) rfl (Nat.le_refl _) (Nat.le_refl _) (c_M_follow (I := (hdI (cdI I) ko)) hn hR hd_23 (by omega) (hc24 hh) hnh (hc25 hl) hnl hW.hd (by unfold WFm; rw [hd_oR, cd_oR]; exact hM)) (m_go ?_)
  show AW _ _ _ _ _ _ _ _ [.int (fwN (hdI (cdI I) ko) ko (nI 0) nl)] _ _ _ _
  exact a_iret dM_ruled_57 rfl ⟨rfl, hcP, (KF.refl hR)⟩
theorem q_M_ruledL {S : Nat × (Nat → Int32)} {d n : Nat} {I : mI} {J : mJ} {R : mR} (hn : 122 ≤ n) (hR : m_fin R) {ko nh nl : Nat} (hk : ko < 2) (h1 : f_in (nI ko) 0 (I 100 0 - 1) = 1) (hh : oR I ko 0 = nI nh) (hnh : nh ≤ 6) (hl : oR I ko 1 = nI nl) (hnl : nl ≤ 10) (hW : WFk I ko) (hH : WFh (fun l => oR I ko (9 + l)) nl)  : AW S (d + 10) YM_ruled n n (qV I R (.int (loN (hdI (cdI I) ko) ko nl (-1) (2 ^ nl)))) 0 [(0, .ref 95), (1, .int (nI ko)), (2, .int (nI 2))] [] I J R n := by
  refine a_aload_n 0 dM_ruled_0 rfl rfl ?_
  refine a_iconstN (a := 0) dM_ruled_1 (by decide) ?_
  refine a_puti dM_ruled_2 fl12_90 rfl ly_95 (by omega) ?_
  refine a_aload_n 0 dM_ruled_5 rfl rfl ?_
  refine a_iload_n 1 dM_ruled_6 rfl rfl ?_
  refine a_callV (Q' := m_res (some (.int 1)) (hdI (cdI I) ko) J R) (as := [.int (nI ko)]) (st := []) dM_ruled_7 ml12_277 rfl (Nat.le_of_ble_eq_true rfl) ly_95 rfl rfl (by decide) (by omega) (Nat.le_of_ble_eq_true rfl) rfl (Nat.le_refl _) (Nat.le_refl _) (c_M_hand (I := cdI I) hn hR (by omega) h1) (m_go ?_)
  show AW _ _ _ _ _ _ _ _ [.int 1] _ _ _ _
  refine a_if_ne (tgt := 15) dM_ruled_10 (by decide) (fun _ => ?_) (fun c => False.elim (absurd c (by decide)))
  refine a_iload_n 2 dM_ruled_15 rfl rfl ?_
  refine a_tab (c := 2) (off := 42) (tgt := 58) dM_ruled_16 rfl (by decide) (by decide) (by decide) (by decide) ?_
  refine a_aload_n 0 dM_ruled_58 rfl rfl ?_
  refine a_callV (Q' := m_res (some (.int (loN (hdI (cdI I) ko) ko nl (-1) (2 ^ nl)))) (hdI (cdI I) ko) J R) (as := []) (st := []) dM_ruled_59 ml12_497 rfl (Nat.le_of_ble_eq_true rfl) ly_95 rfl rfl (by decide) (by omega) (Nat.le_of_ble_eq_true rfl) rfl (Nat.le_refl _) (Nat.le_refl _) (c_M_loose (I := (hdI (cdI I) ko)) hn hR hd_23 (by omega) (hc24 hh) hnh (hc25 hl) hnl hW.hd) (m_go ?_)
  show AW _ _ _ _ _ _ _ _ [.int (loN (hdI (cdI I) ko) ko nl (-1) (2 ^ nl))] _ _ _ _
  exact a_iret dM_ruled_62 rfl ⟨rfl, hcP, (KF.refl hR)⟩
theorem q_M_ruledT {S : Nat × (Nat → Int32)} {d n : Nat} {I : mI} {J : mJ} {R : mR} (hn : 122 ≤ n) (hR : m_fin R) {ko nh nl : Nat} (hk : ko < 2) (h1 : f_in (nI ko) 0 (I 100 0 - 1) = 1) (hh : oR I ko 0 = nI nh) (hnh : nh ≤ 6) (hl : oR I ko 1 = nI nl) (hnl : nl ≤ 10) (hW : WFk I ko) (hH : WFh (fun l => oR I ko (9 + l)) nl)  : AW S (d + 10) YM_ruled n n (qV I R (.int (nI (toN (hdI (cdI I) ko) ko nl (0, (hdI (cdI I) ko) 110) nh).1))) 0 [(0, .ref 95), (1, .int (nI ko)), (2, .int (nI 3))] [] I J R n := by
  refine a_aload_n 0 dM_ruled_0 rfl rfl ?_
  refine a_iconstN (a := 0) dM_ruled_1 (by decide) ?_
  refine a_puti dM_ruled_2 fl12_90 rfl ly_95 (by omega) ?_
  refine a_aload_n 0 dM_ruled_5 rfl rfl ?_
  refine a_iload_n 1 dM_ruled_6 rfl rfl ?_
  refine a_callV (Q' := m_res (some (.int 1)) (hdI (cdI I) ko) J R) (as := [.int (nI ko)]) (st := []) dM_ruled_7 ml12_277 rfl (Nat.le_of_ble_eq_true rfl) ly_95 rfl rfl (by decide) (by omega) (Nat.le_of_ble_eq_true rfl) rfl (Nat.le_refl _) (Nat.le_refl _) (c_M_hand (I := cdI I) hn hR (by omega) h1) (m_go ?_)
  show AW _ _ _ _ _ _ _ _ [.int 1] _ _ _ _
  refine a_if_ne (tgt := 15) dM_ruled_10 (by decide) (fun _ => ?_) (fun c => False.elim (absurd c (by decide)))
  refine a_iload_n 2 dM_ruled_15 rfl rfl ?_
  refine a_tab (c := 3) (off := 47) (tgt := 63) dM_ruled_16 rfl (by decide) (by decide) (by decide) (by decide) ?_
  refine a_aload_n 0 dM_ruled_63 rfl rfl ?_
  refine a_callV (Q' := m_res (some (.int (nI (toN (hdI (cdI I) ko) ko nl (0, (hdI (cdI I) ko) 110) nh).1))) (m_row (hdI (cdI I) ko) 110 (toN (hdI (cdI I) ko) ko nl (0, (hdI (cdI I) ko) 110) nh).2) J R) (as := []) (st := []) dM_ruled_64 ml12_500 rfl (Nat.le_of_ble_eq_true rfl) ly_95 rfl rfl (by decide) (by omega) (Nat.le_of_ble_eq_true rfl) rfl (Nat.le_refl _) (Nat.le_refl _) (by have h := c_M_touched (S := S) (d := d) (n := n) (J := J) (R := R) (I := (hdI (cdI I) ko)) (B := (hdI (cdI I) ko) 110) hn hR hd_23 (by omega) (hc24 hh) hnh (hc25 hl) hnl hW.hd; rw [m_row_self] at h; exact h) (m_go ?_)
  show AW _ _ _ _ _ _ _ _ [.int (nI (toN (hdI (cdI I) ko) ko nl (0, (hdI (cdI I) ko) 110) nh).1)] _ _ _ _
  exact a_iret dM_ruled_67 rfl ⟨rfl, (KP.row hcP (by omega)), (KF.refl hR)⟩
theorem q_M_ruledN {S : Nat × (Nat → Int32)} {d n : Nat} {I : mI} {J : mJ} {R : mR} (hn : 122 ≤ n) (hR : m_fin R) {ko nh nl : Nat} (hk : ko < 2) (h1 : f_in (nI ko) 0 (I 100 0 - 1) = 1) (hh : oR I ko 0 = nI nh) (hnh : nh ≤ 6) (hl : oR I ko 1 = nI nl) (hnl : nl ≤ 10) (hW : WFk I ko) (hH : WFh (fun l => oR I ko (9 + l)) nl) {y : Int32} (hy : y.toInt < 0 ∨ 3 < y.toInt) (hy2 : y < nI 10)  : AW S (d + 10) YM_ruled n n (qV I R (.int (-1))) 0 [(0, .ref 95), (1, .int (nI ko)), (2, .int y)] [] I J R n := by
  refine a_aload_n 0 dM_ruled_0 rfl rfl ?_
  refine a_iconstN (a := 0) dM_ruled_1 (by decide) ?_
  refine a_puti dM_ruled_2 fl12_90 rfl ly_95 (by omega) ?_
  refine a_aload_n 0 dM_ruled_5 rfl rfl ?_
  refine a_iload_n 1 dM_ruled_6 rfl rfl ?_
  refine a_callV (Q' := m_res (some (.int 1)) (hdI (cdI I) ko) J R) (as := [.int (nI ko)]) (st := []) dM_ruled_7 ml12_277 rfl (Nat.le_of_ble_eq_true rfl) ly_95 rfl rfl (by decide) (by omega) (Nat.le_of_ble_eq_true rfl) rfl (Nat.le_refl _) (Nat.le_refl _) (c_M_hand (I := cdI I) hn hR (by omega) h1) (m_go ?_)
  show AW _ _ _ _ _ _ _ _ [.int 1] _ _ _ _
  refine a_if_ne (tgt := 15) dM_ruled_10 (by decide) (fun _ => ?_) (fun c => False.elim (absurd c (by decide)))
  refine a_iload_n 2 dM_ruled_15 rfl rfl ?_
  refine a_tableOut (tgt := 68) dM_ruled_16 hy (by decide) ?_
  refine a_iload_n 2 dM_ruled_68 rfl rfl ?_
  refine a_bipushN (a := 10) dM_ruled_69 (by decide) ?_
  refine a_icmp_ge (tgt := 78) dM_ruled_71 (by decide) (fun c => False.elim (absurd hy2 (Int32.not_lt.mpr c))) (fun _ => ?_)
  refine a_iconst (v := -1) dM_ruled_74 (by decide) ?_
  refine a_goto (tgt := 86) dM_ruled_75 (by decide) ?_
  exact a_iret dM_ruled_86 rfl ⟨rfl, hcP, (KF.refl hR)⟩
theorem q_M_ruledK {S : Nat × (Nat → Int32)} {d n : Nat} {I : mI} {J : mJ} {R : mR} (hn : 122 ≤ n) (hR : m_fin R) {ko nh nl : Nat} (hk : ko < 2) (h1 : f_in (nI ko) 0 (I 100 0 - 1) = 1) (hh : oR I ko 0 = nI nh) (hnh : nh ≤ 6) (hl : oR I ko 1 = nI nl) (hnl : nl ≤ 10) (hW : WFk I ko) (hH : WFh (fun l => oR I ko (9 + l)) nl) {y : Int32} (hy : y.toInt < 0 ∨ 3 < y.toInt) (hy2 : ¬ y < nI 10) {v : Int32} (hv : ∀ v2, rkV (rkA (hdI (cdI I) ko) ko nl ((hdI (cdI I) ko) 110, (hdI (cdI I) ko) 120) nh).2 nh (y - nI 10) v2 → v2 = v)  : AW S (d + 10) YM_ruled n n (qV I R (.int v)) 0 [(0, .ref 95), (1, .int (nI ko)), (2, .int y)] [] I J R n := by
  refine a_aload_n 0 dM_ruled_0 rfl rfl ?_
  refine a_iconstN (a := 0) dM_ruled_1 (by decide) ?_
  refine a_puti dM_ruled_2 fl12_90 rfl ly_95 (by omega) ?_
  refine a_aload_n 0 dM_ruled_5 rfl rfl ?_
  refine a_iload_n 1 dM_ruled_6 rfl rfl ?_
  refine a_callV (Q' := m_res (some (.int 1)) (hdI (cdI I) ko) J R) (as := [.int (nI ko)]) (st := []) dM_ruled_7 ml12_277 rfl (Nat.le_of_ble_eq_true rfl) ly_95 rfl rfl (by decide) (by omega) (Nat.le_of_ble_eq_true rfl) rfl (Nat.le_refl _) (Nat.le_refl _) (c_M_hand (I := cdI I) hn hR (by omega) h1) (m_go ?_)
  show AW _ _ _ _ _ _ _ _ [.int 1] _ _ _ _
  refine a_if_ne (tgt := 15) dM_ruled_10 (by decide) (fun _ => ?_) (fun c => False.elim (absurd c (by decide)))
  refine a_iload_n 2 dM_ruled_15 rfl rfl ?_
  refine a_tableOut (tgt := 68) dM_ruled_16 hy (by decide) ?_
  refine a_iload_n 2 dM_ruled_68 rfl rfl ?_
  refine a_bipushN (a := 10) dM_ruled_69 (by decide) ?_
  refine a_icmp_ge (tgt := 78) dM_ruled_71 (by decide) (fun _ => ?_) (fun c => False.elim (c (Int32.not_lt.mp hy2)))
  refine a_aload_n 0 dM_ruled_78 rfl rfl ?_
  refine a_iload_n 2 dM_ruled_79 rfl rfl ?_
  refine a_bipushN (a := 10) dM_ruled_80 (by decide) ?_
  refine a_isub dM_ruled_82 ?_
  refine a_callV (Q' := fun v2 I2 J2 R2 => ∃ v3, v2 = some (.int v3) ∧ rkV (rkA (hdI (cdI I) ko) ko nl ((hdI (cdI I) ko) 110, (hdI (cdI I) ko) 120) nh).2 nh (y - nI 10) v3 ∧ I2 = (m_row (m_row (hdI (cdI I) ko) 110 ((rkA (hdI (cdI I) ko) ko nl ((hdI (cdI I) ko) 110, (hdI (cdI I) ko) 120) nh).1)) 120 ((rkA (hdI (cdI I) ko) ko nl ((hdI (cdI I) ko) 110, (hdI (cdI I) ko) 120) nh).2)) ∧ J2 = J ∧ R2 = R) (as := [.int (y - nI 10)]) (st := []) dM_ruled_83 ml12_503 rfl (Nat.le_of_ble_eq_true rfl) ly_95 rfl rfl (by decide) (by omega) (Nat.le_of_ble_eq_true rfl) rfl (Nat.le_refl _) (Nat.le_refl _) (by have h := b_M_ranked (S := S) (d := d) (n := n) (J := J) (R := R) (I := (hdI (cdI I) ko)) (x := y - nI 10) (B := (hdI (cdI I) ko) 110) (b := (hdI (cdI I) ko) 120) hn hR hd_23 (by omega) (hc24 hh) hnh (hc25 hl) hnl hW.hd (Q := fun v2 I2 J2 R2 => ∃ v3, v2 = some (.int v3) ∧ rkV (rkA (hdI (cdI I) ko) ko nl ((hdI (cdI I) ko) 110, (hdI (cdI I) ko) 120) nh).2 nh (y - nI 10) v3 ∧ I2 = (m_row (m_row (hdI (cdI I) ko) 110 ((rkA (hdI (cdI I) ko) ko nl ((hdI (cdI I) ko) 110, (hdI (cdI I) ko) 120) nh).1)) 120 ((rkA (hdI (cdI I) ko) ko nl ((hdI (cdI I) ko) 110, (hdI (cdI I) ko) 120) nh).2)) ∧ J2 = J ∧ R2 = R) (fun v3 h3 => ⟨v3, rfl, h3, rfl, rfl, rfl⟩); rw [m_row_self, m_row_self] at h; exact h) ?_
  intro v2 I2 J2 R2 ⟨v3, e1, h3, e2, e3, e4⟩
  subst e1
  rw [e2, e3, e4, hv v3 h3]
  show AW _ _ _ _ _ _ _ _ [.int v] _ _ _ _
  exact a_iret dM_ruled_86 rfl ⟨rfl, (KP.row (KP.row hcP (by omega)) (by omega)), (KF.refl hR)⟩
