theorem hc24 {I : mI} {ko nh : Nat} (h : oR I ko 0 = nI nh) : hdI (cdI I) ko 95 24 = nI nh := hd_24.trans h
theorem hc25 {I : mI} {ko nl : Nat} (h : oR I ko 1 = nI nl) : hdI (cdI I) ko 95 25 = nI nl := hd_25.trans h
theorem hcH {I : mI} {ko nl : Nat} (hnl : nl ≤ 10) (h : WFh (fun l => oR I ko (9 + l)) nl) : WFh (hdI (cdI I) ko 106) nl := by
  intro l hl
  obtain ⟨q, h1, h2⟩ := h l hl
  refine ⟨q, h1, ?_⟩
  rw [hd_106]
  unfold m_fill
  rw [if_pos (by omega)]
  exact h2
theorem hcP {I : mI} {ko : Nat} : KP I (hdI (cdI I) ko) := KP.hd (KP.up KP.refl (by omega))
theorem f_in_l3 {x : Int32} (h : f_in x 0 (nI 3) = 1) : ¬ x = 0 → ¬ x = nI 1 → ¬ x = nI 2 → x = 3 := by
  intro a b c
  obtain ⟨j, hj, e⟩ := f_in_nz (x := x) (c := 4) (by omega) (by rw [show nI 4 - 1 = nI 3 by decide, h]; decide)
  have : j = 0 ∨ j = 1 ∨ j = 2 ∨ j = 3 := by omega
  rcases this with h | h | h | h
  · subst h; exact absurd e a
  · subst h; exact absurd e b
  · subst h; exact absurd e c
  · subst h; exact e
theorem f_in_c {a c : Nat} (h : a < c) (hc : c < 2 ^ 31) : f_in (nI a) 0 (nI c - 1) = 1 := by
  rcases f_in_01 (v := nI a) (lo := 0) (hi := nI c - 1) with q | q
  · exact absurd ((f_in_n0 (by omega) hc).mp q) (by omega)
  · exact q
theorem q_M_mean0 {S : Nat × (Nat → Int32)} {d n : Nat} {I : mI} {J : mJ} {R : mR} (hn : 122 ≤ n) (hR : m_fin R) {x : Int32} (h0 : f_in x 0 (I 100 0 - 1) = 0) {y : Int32} {u : Int32}  : AW S (d + 5) YM_mean n n (qV I R (.long (-1000000000000))) 0 [(0, .ref 95), (1, .int x), (2, .int y), (3, .int u)] [] I J R n := by
  refine a_aload_n 0 dM_mean_0 rfl rfl ?_
  refine a_iconstN (a := 0) dM_mean_1 (by decide) ?_
  refine a_puti dM_mean_2 fl12_90 rfl ly_95 (by omega) ?_
  refine a_aload_n 0 dM_mean_5 rfl rfl ?_
  refine a_iload_n 1 dM_mean_6 rfl rfl ?_
  refine a_callV (Q' := m_res (some (.int 0)) (m_up I 95 0 (nI 0)) J R) (as := [.int x]) (st := []) dM_mean_7 ml12_277 rfl (Nat.le_of_ble_eq_true rfl) ly_95 rfl rfl (by decide) (by omega) (Nat.le_of_ble_eq_true rfl) rfl (Nat.le_refl _) (Nat.le_refl _) (c_M_hand0 (I := cdI I) hn hR h0) (m_go ?_)
  show AW _ _ _ _ _ _ _ _ [.int 0] _ _ _ _
  refine a_if_eq (tgt := 21) dM_mean_10 (by decide) (fun _ => ?_) (fun c => False.elim (c rfl))
  refine a_ldc2 (v := (-1000000000000)) dM_mean_21 cn12_379 ?_
  exact a_lret dM_mean_24 rfl ⟨rfl, (KP.up KP.refl (by omega)), (KF.refl hR)⟩
theorem q_M_mean1 {S : Nat × (Nat → Int32)} {d n : Nat} {I : mI} {J : mJ} {R : mR} (hn : 122 ≤ n) (hR : m_fin R) {ko nh nl : Nat} (hk : ko < 2) (h1 : f_in (nI ko) 0 (I 100 0 - 1) = 1) (hh : oR I ko 0 = nI nh) (hnh : nh ≤ 6) (hl : oR I ko 1 = nI nl) (hnl : nl ≤ 10) (hW : WFk I ko) (hH : WFh (fun l => oR I ko (9 + l)) nl) {y : Int32} {u : Int32} (hb : f_in y 0 (nI nh - 1) = 0)  : AW S (d + 5) YM_mean n n (qV I R (.long (-1000000000000))) 0 [(0, .ref 95), (1, .int (nI ko)), (2, .int y), (3, .int u)] [] I J R n := by
  refine a_aload_n 0 dM_mean_0 rfl rfl ?_
  refine a_iconstN (a := 0) dM_mean_1 (by decide) ?_
  refine a_puti dM_mean_2 fl12_90 rfl ly_95 (by omega) ?_
  refine a_aload_n 0 dM_mean_5 rfl rfl ?_
  refine a_iload_n 1 dM_mean_6 rfl rfl ?_
  refine a_callV (Q' := m_res (some (.int 1)) (hdI (cdI I) ko) J R) (as := [.int (nI ko)]) (st := []) dM_mean_7 ml12_277 rfl (Nat.le_of_ble_eq_true rfl) ly_95 rfl rfl (by decide) (by omega) (Nat.le_of_ble_eq_true rfl) rfl (Nat.le_refl _) (Nat.le_refl _) (c_M_hand (I := cdI I) hn hR (by omega) h1) (m_go ?_)
  show AW _ _ _ _ _ _ _ _ [.int 1] _ _ _ _
  refine a_if_eq (tgt := 21) dM_mean_10 (by decide) (fun c => False.elim (absurd c (by decide))) (fun _ => ?_)
  refine a_aload_n 0 dM_mean_13 rfl rfl ?_
  refine a_iload_n 2 dM_mean_14 rfl rfl ?_
  refine a_callV (Q' := m_res (some (.int (f_in y 0 (nI nh - 1)))) (hdI (cdI I) ko) J R) (as := [.int y]) (st := []) dM_mean_15 ml12_322 rfl (Nat.le_of_ble_eq_true rfl) ly_95 rfl rfl (by decide) (by omega) (Nat.le_of_ble_eq_true rfl) rfl (Nat.le_refl _) (Nat.le_refl _) (by have h := c_M_isHouse (S := S) (d := d + 3) (n := n) (J := J) (R := R) (I := (hdI (cdI I) ko)) (h := y) hn; rw [hc24 hh] at h; exact h) (m_go ?_)
  show AW _ _ _ _ _ _ _ _ [.int (f_in y 0 (nI nh - 1))] _ _ _ _
  refine a_if_ne (tgt := 25) dM_mean_18 (by decide) (fun c18 => ?_) (fun c18 => ?_)
  · exfalso
    exact c18 hb
  · refine a_ldc2 (v := (-1000000000000)) dM_mean_21 cn12_379 ?_
    exact a_lret dM_mean_24 rfl ⟨rfl, hcP, (KF.refl hR)⟩
theorem q_M_mean {S : Nat × (Nat → Int32)} {d n : Nat} {I : mI} {J : mJ} {R : mR} (hn : 122 ≤ n) (hR : m_fin R) {ko nh nl : Nat} (hk : ko < 2) (h1 : f_in (nI ko) 0 (I 100 0 - 1) = 1) (hh : oR I ko 0 = nI nh) (hnh : nh ≤ 6) (hl : oR I ko 1 = nI nl) (hnl : nl ≤ 10) (hW : WFk I ko) (hH : WFh (fun l => oR I ko (9 + l)) nl) {h : Nat} (hh6 : h < nh) {u : Int32}  : AW S (d + 5) YM_mean n n (qV I R (.long (meR (hdI (cdI I) ko) ko h nl u))) 0 [(0, .ref 95), (1, .int (nI ko)), (2, .int (nI h)), (3, .int u)] [] I J R n := by
  refine a_aload_n 0 dM_mean_0 rfl rfl ?_
  refine a_iconstN (a := 0) dM_mean_1 (by decide) ?_
  refine a_puti dM_mean_2 fl12_90 rfl ly_95 (by omega) ?_
  refine a_aload_n 0 dM_mean_5 rfl rfl ?_
  refine a_iload_n 1 dM_mean_6 rfl rfl ?_
  refine a_callV (Q' := m_res (some (.int 1)) (hdI (cdI I) ko) J R) (as := [.int (nI ko)]) (st := []) dM_mean_7 ml12_277 rfl (Nat.le_of_ble_eq_true rfl) ly_95 rfl rfl (by decide) (by omega) (Nat.le_of_ble_eq_true rfl) rfl (Nat.le_refl _) (Nat.le_refl _) (c_M_hand (I := cdI I) hn hR (by omega) h1) (m_go ?_)
  show AW _ _ _ _ _ _ _ _ [.int 1] _ _ _ _
  refine a_if_eq (tgt := 21) dM_mean_10 (by decide) (fun c => False.elim (absurd c (by decide))) (fun _ => ?_)
  refine a_aload_n 0 dM_mean_13 rfl rfl ?_
  refine a_iload_n 2 dM_mean_14 rfl rfl ?_
  refine a_callV (Q' := m_res (some (.int 1)) (hdI (cdI I) ko) J R) (as := [.int (nI h)]) (st := []) dM_mean_15 ml12_322 rfl (Nat.le_of_ble_eq_true rfl) ly_95 rfl rfl (by decide) (by omega) (Nat.le_of_ble_eq_true rfl) rfl (Nat.le_refl _) (Nat.le_refl _) (by have h := c_M_isHouse (S := S) (d := d + 3) (n := n) (J := J) (R := R) (I := (hdI (cdI I) ko)) (h := (nI h)) hn; rw [hc24 hh, (f_in_c hh6 (by omega))] at h; exact h) (m_go ?_)
  show AW _ _ _ _ _ _ _ _ [.int 1] _ _ _ _
  refine a_if_ne (tgt := 25) dM_mean_18 (by decide) (fun _ => ?_) (fun c => False.elim (absurd c (by decide)))
  refine a_locs (lv' := [(0, .ref 95), (2, .int (nI h)), (3, .int u)]) [0, 2, 3] rfl ?_
  exact b_M_mean (S := S) (d := d) (n := n) (J := J) (R := R) (I := (hdI (cdI I) ko)) hn hR hd_23 (by omega) (hc24 hh) hnh (hc25 hl) hnl hW.hd hh6 ⟨rfl, hcP, KF.refl hR⟩
theorem q_M_spared0 {S : Nat × (Nat → Int32)} {d n : Nat} {I : mI} {J : mJ} {R : mR} (hn : 122 ≤ n) (hR : m_fin R) {x : Int32} (h0 : f_in x 0 (I 100 0 - 1) = 0) {y : Int32} {p : Int32} {z : Int32} {u : Int32}  : AW S (d + 5) YM_spared n n (qV I R (.long (-1))) 0 [(0, .ref 95), (1, .int x), (2, .int y), (3, .int p), (4, .int z), (5, .int u)] [] I J R n := by
  refine a_aload_n 0 dM_spared_0 rfl rfl ?_
  refine a_iconstN (a := 0) dM_spared_1 (by decide) ?_
  refine a_puti dM_spared_2 fl12_90 rfl ly_95 (by omega) ?_
  refine a_iload_n 3 dM_spared_5 rfl rfl ?_
  refine a_iconstN (a := 0) dM_spared_6 (by decide) ?_
  refine a_bipushN (a := 10) dM_spared_7 (by decide) ?_
  refine a_callS (Q' := m_res (some (.int (f_in p (nI 0) (nI 10)))) (m_up I 95 0 (nI 0)) J R) (as := [.int p, .int (nI 0), .int (nI 10)]) (st := []) dM_spared_9 ml12_102 rfl (Nat.le_of_ble_eq_true rfl) (Nat.le_of_ble_eq_true rfl) rfl (Nat.le_refl _) (Nat.le_refl _) c_M_in (m_go ?_)
  show AW _ _ _ _ _ _ _ _ [.int (f_in p (nI 0) (nI 10))] _ _ _ _
  refine a_if_eq (tgt := 42) dM_spared_12 (by decide) (fun c12 => ?_) (fun c12 => ?_)
  · refine a_ldc2 (v := (-1)) dM_spared_42 cn12_388 ?_
    exact a_lret dM_spared_45 rfl ⟨rfl, (KP.up KP.refl (by omega)), (KF.refl hR)⟩
  · refine a_iload 4 dM_spared_15 rfl ?_
    refine a_iconstN (a := 0) dM_spared_17 (by decide) ?_
    refine a_bipushN (a := 99) dM_spared_18 (by decide) ?_
    refine a_callS (Q' := m_res (some (.int (f_in z (nI 0) (nI 99)))) (m_up I 95 0 (nI 0)) J R) (as := [.int z, .int (nI 0), .int (nI 99)]) (st := []) dM_spared_20 ml12_102 rfl (Nat.le_of_ble_eq_true rfl) (Nat.le_of_ble_eq_true rfl) rfl (Nat.le_refl _) (Nat.le_refl _) c_M_in (m_go ?_)
    show AW _ _ _ _ _ _ _ _ [.int (f_in z (nI 0) (nI 99))] _ _ _ _
    refine a_if_eq (tgt := 42) dM_spared_23 (by decide) (fun c23 => ?_) (fun c23 => ?_)
    · refine a_ldc2 (v := (-1)) dM_spared_42 cn12_388 ?_
      exact a_lret dM_spared_45 rfl ⟨rfl, (KP.up KP.refl (by omega)), (KF.refl hR)⟩
    · refine a_aload_n 0 dM_spared_26 rfl rfl ?_
      refine a_iload_n 1 dM_spared_27 rfl rfl ?_
      refine a_callV (Q' := m_res (some (.int 0)) (m_up I 95 0 (nI 0)) J R) (as := [.int x]) (st := []) dM_spared_28 ml12_277 rfl (Nat.le_of_ble_eq_true rfl) ly_95 rfl rfl (by decide) (by omega) (Nat.le_of_ble_eq_true rfl) rfl (Nat.le_refl _) (Nat.le_refl _) (c_M_hand0 (I := cdI I) hn hR h0) (m_go ?_)
      show AW _ _ _ _ _ _ _ _ [.int 0] _ _ _ _
      refine a_if_eq (tgt := 42) dM_spared_31 (by decide) (fun _ => ?_) (fun c => False.elim (c rfl))
      refine a_ldc2 (v := (-1)) dM_spared_42 cn12_388 ?_
      exact a_lret dM_spared_45 rfl ⟨rfl, (KP.up KP.refl (by omega)), (KF.refl hR)⟩
theorem q_M_spared1 {S : Nat × (Nat → Int32)} {d n : Nat} {I : mI} {J : mJ} {R : mR} (hn : 122 ≤ n) (hR : m_fin R) {ko nh nl : Nat} (hk : ko < 2) (h1 : f_in (nI ko) 0 (I 100 0 - 1) = 1) (hh : oR I ko 0 = nI nh) (hnh : nh ≤ 6) (hl : oR I ko 1 = nI nl) (hnl : nl ≤ 10) (hW : WFk I ko) (hH : WFh (fun l => oR I ko (9 + l)) nl) {y : Int32} {p : Int32} {z : Int32} {u : Int32} (hb : f_in p 0 (nI 10) = 0 ∨ f_in z 0 (nI 99) = 0 ∨ f_in y 0 (nI nh - 1) = 0)  : AW S (d + 5) YM_spared n n (qV I R (.long (-1))) 0 [(0, .ref 95), (1, .int (nI ko)), (2, .int y), (3, .int p), (4, .int z), (5, .int u)] [] I J R n := by
  refine a_aload_n 0 dM_spared_0 rfl rfl ?_
  refine a_iconstN (a := 0) dM_spared_1 (by decide) ?_
  refine a_puti dM_spared_2 fl12_90 rfl ly_95 (by omega) ?_
  refine a_iload_n 3 dM_spared_5 rfl rfl ?_
  refine a_iconstN (a := 0) dM_spared_6 (by decide) ?_
  refine a_bipushN (a := 10) dM_spared_7 (by decide) ?_
  refine a_callS (Q' := m_res (some (.int (f_in p (nI 0) (nI 10)))) (m_up I 95 0 (nI 0)) J R) (as := [.int p, .int (nI 0), .int (nI 10)]) (st := []) dM_spared_9 ml12_102 rfl (Nat.le_of_ble_eq_true rfl) (Nat.le_of_ble_eq_true rfl) rfl (Nat.le_refl _) (Nat.le_refl _) c_M_in (m_go ?_)
  show AW _ _ _ _ _ _ _ _ [.int (f_in p (nI 0) (nI 10))] _ _ _ _
  refine a_if_eq (tgt := 42) dM_spared_12 (by decide) (fun c12 => ?_) (fun c12 => ?_)
  · refine a_ldc2 (v := (-1)) dM_spared_42 cn12_388 ?_
    exact a_lret dM_spared_45 rfl ⟨rfl, (KP.up KP.refl (by omega)), (KF.refl hR)⟩
  · refine a_iload 4 dM_spared_15 rfl ?_
    refine a_iconstN (a := 0) dM_spared_17 (by decide) ?_
    refine a_bipushN (a := 99) dM_spared_18 (by decide) ?_
    refine a_callS (Q' := m_res (some (.int (f_in z (nI 0) (nI 99)))) (m_up I 95 0 (nI 0)) J R) (as := [.int z, .int (nI 0), .int (nI 99)]) (st := []) dM_spared_20 ml12_102 rfl (Nat.le_of_ble_eq_true rfl) (Nat.le_of_ble_eq_true rfl) rfl (Nat.le_refl _) (Nat.le_refl _) c_M_in (m_go ?_)
    show AW _ _ _ _ _ _ _ _ [.int (f_in z (nI 0) (nI 99))] _ _ _ _
    refine a_if_eq (tgt := 42) dM_spared_23 (by decide) (fun c23 => ?_) (fun c23 => ?_)
    · refine a_ldc2 (v := (-1)) dM_spared_42 cn12_388 ?_
      exact a_lret dM_spared_45 rfl ⟨rfl, (KP.up KP.refl (by omega)), (KF.refl hR)⟩
    · refine a_aload_n 0 dM_spared_26 rfl rfl ?_
      refine a_iload_n 1 dM_spared_27 rfl rfl ?_
      refine a_callV (Q' := m_res (some (.int 1)) (hdI (cdI I) ko) J R) (as := [.int (nI ko)]) (st := []) dM_spared_28 ml12_277 rfl (Nat.le_of_ble_eq_true rfl) ly_95 rfl rfl (by decide) (by omega) (Nat.le_of_ble_eq_true rfl) rfl (Nat.le_refl _) (Nat.le_refl _) (c_M_hand (I := cdI I) hn hR (by omega) h1) (m_go ?_)
      show AW _ _ _ _ _ _ _ _ [.int 1] _ _ _ _
      refine a_if_eq (tgt := 42) dM_spared_31 (by decide) (fun c => False.elim (absurd c (by decide))) (fun _ => ?_)
      refine a_aload_n 0 dM_spared_34 rfl rfl ?_
      refine a_iload_n 2 dM_spared_35 rfl rfl ?_
      refine a_callV (Q' := m_res (some (.int (f_in y 0 (nI nh - 1)))) (hdI (cdI I) ko) J R) (as := [.int y]) (st := []) dM_spared_36 ml12_322 rfl (Nat.le_of_ble_eq_true rfl) ly_95 rfl rfl (by decide) (by omega) (Nat.le_of_ble_eq_true rfl) rfl (Nat.le_refl _) (Nat.le_refl _) (by have h := c_M_isHouse (S := S) (d := d + 3) (n := n) (J := J) (R := R) (I := (hdI (cdI I) ko)) (h := y) hn; rw [hc24 hh] at h; exact h) (m_go ?_)
      show AW _ _ _ _ _ _ _ _ [.int (f_in y 0 (nI nh - 1))] _ _ _ _
      refine a_if_ne (tgt := 46) dM_spared_39 (by decide) (fun c39 => ?_) (fun c39 => ?_)
      · exfalso
        rcases hb with hb | hb | hb
        · exact c12 hb
        · exact c23 hb
        · exact c39 hb
      · refine a_ldc2 (v := (-1)) dM_spared_42 cn12_388 ?_
        exact a_lret dM_spared_45 rfl ⟨rfl, hcP, (KF.refl hR)⟩
theorem q_M_spared {S : Nat × (Nat → Int32)} {d n : Nat} {I : mI} {J : mJ} {R : mR} (hn : 122 ≤ n) (hR : m_fin R) {ko nh nl : Nat} (hk : ko < 2) (h1 : f_in (nI ko) 0 (I 100 0 - 1) = 1) (hh : oR I ko 0 = nI nh) (hnh : nh ≤ 6) (hl : oR I ko 1 = nI nl) (hnl : nl ≤ 10) (hW : WFk I ko) (hH : WFh (fun l => oR I ko (9 + l)) nl) {h p z : Nat} (hh6 : h < nh) (hp : p ≤ 10) (hz : z ≤ 99) {u : Int32}  : AW S (d + 5) YM_spared n n (qV I R (.long (spR (hdI (cdI I) ko) ko nl h p (nI z) u))) 0 [(0, .ref 95), (1, .int (nI ko)), (2, .int (nI h)), (3, .int (nI p)), (4, .int (nI z)), (5, .int u)] [] I J R n := by
  refine a_aload_n 0 dM_spared_0 rfl rfl ?_
  refine a_iconstN (a := 0) dM_spared_1 (by decide) ?_
  refine a_puti dM_spared_2 fl12_90 rfl ly_95 (by omega) ?_
  refine a_iload_n 3 dM_spared_5 rfl rfl ?_
  refine a_iconstN (a := 0) dM_spared_6 (by decide) ?_
  refine a_bipushN (a := 10) dM_spared_7 (by decide) ?_
  refine a_callS (Q' := m_res (some (.int 1)) (m_up I 95 0 (nI 0)) J R) (as := [.int (nI p), .int (nI 0), .int (nI 10)]) (st := []) dM_spared_9 ml12_102 rfl (Nat.le_of_ble_eq_true rfl) (Nat.le_of_ble_eq_true rfl) rfl (Nat.le_refl _) (Nat.le_refl _) (c_M_inE (f_in_n (lo := 0) (by omega) hp (by omega))) (m_go ?_)
  show AW _ _ _ _ _ _ _ _ [.int 1] _ _ _ _
  refine a_if_eq (tgt := 42) dM_spared_12 (by decide) (fun c => False.elim (absurd c (by decide))) (fun _ => ?_)
  refine a_iload 4 dM_spared_15 rfl ?_
  refine a_iconstN (a := 0) dM_spared_17 (by decide) ?_
  refine a_bipushN (a := 99) dM_spared_18 (by decide) ?_
  refine a_callS (Q' := m_res (some (.int 1)) (m_up I 95 0 (nI 0)) J R) (as := [.int (nI z), .int (nI 0), .int (nI 99)]) (st := []) dM_spared_20 ml12_102 rfl (Nat.le_of_ble_eq_true rfl) (Nat.le_of_ble_eq_true rfl) rfl (Nat.le_refl _) (Nat.le_refl _) (c_M_inE (f_in_n (lo := 0) (by omega) hz (by omega))) (m_go ?_)
  show AW _ _ _ _ _ _ _ _ [.int 1] _ _ _ _
  refine a_if_eq (tgt := 42) dM_spared_23 (by decide) (fun c => False.elim (absurd c (by decide))) (fun _ => ?_)
  refine a_aload_n 0 dM_spared_26 rfl rfl ?_
  refine a_iload_n 1 dM_spared_27 rfl rfl ?_
  refine a_callV (Q' := m_res (some (.int 1)) (hdI (cdI I) ko) J R) (as := [.int (nI ko)]) (st := []) dM_spared_28 ml12_277 rfl (Nat.le_of_ble_eq_true rfl) ly_95 rfl rfl (by decide) (by omega) (Nat.le_of_ble_eq_true rfl) rfl (Nat.le_refl _) (Nat.le_refl _) (c_M_hand (I := cdI I) hn hR (by omega) h1) (m_go ?_)
  show AW _ _ _ _ _ _ _ _ [.int 1] _ _ _ _
  refine a_if_eq (tgt := 42) dM_spared_31 (by decide) (fun c => False.elim (absurd c (by decide))) (fun _ => ?_)
  refine a_aload_n 0 dM_spared_34 rfl rfl ?_
  refine a_iload_n 2 dM_spared_35 rfl rfl ?_
  refine a_callV (Q' := m_res (some (.int 1)) (hdI (cdI I) ko) J R) (as := [.int (nI h)]) (st := []) dM_spared_36 ml12_322 rfl (Nat.le_of_ble_eq_true rfl) ly_95 rfl rfl (by decide) (by omega) (Nat.le_of_ble_eq_true rfl) rfl (Nat.le_refl _) (Nat.le_refl _) (by have h := c_M_isHouse (S := S) (d := d + 3) (n := n) (J := J) (R := R) (I := (hdI (cdI I) ko)) (h := (nI h)) hn; rw [hc24 hh, (f_in_c hh6 (by omega))] at h; exact h) (m_go ?_)
  show AW _ _ _ _ _ _ _ _ [.int 1] _ _ _ _
  refine a_if_ne (tgt := 46) dM_spared_39 (by decide) (fun _ => ?_) (fun c => False.elim (absurd c (by decide)))
  refine a_locs (lv' := [(0, .ref 95), (2, .int (nI h)), (3, .int (nI p)), (4, .int (nI z)), (5, .int u)]) [0, 2, 3, 4, 5] rfl ?_
  exact b_M_spared (S := S) (d := d) (n := n) (J := J) (R := R) (I := (hdI (cdI I) ko)) hn hR hd_23 (by omega) (hc24 hh) hnh (hc25 hl) hnl hW.hd hh6 hp (fun lo => ⟨rfl, (KP.row hcP (by omega)), KF.refl hR⟩)
theorem q_M_calm0 {S : Nat × (Nat → Int32)} {d n : Nat} {I : mI} {J : mJ} {R : mR} (hn : 122 ≤ n) (hR : m_fin R) {x : Int32} (h0 : f_in x 0 (I 100 0 - 1) = 0) {y : Int32} {z : Int32} {u : Int32}  : AW S (d + 5) YM_calm n n (qV I R (.int (-1))) 0 [(0, .ref 95), (1, .int x), (2, .int y), (3, .int z), (4, .int u)] [] I J R n := by
  refine a_aload_n 0 dM_calm_0 rfl rfl ?_
  refine a_iconstN (a := 0) dM_calm_1 (by decide) ?_
  refine a_puti dM_calm_2 fl12_90 rfl ly_95 (by omega) ?_
  refine a_iload_n 3 dM_calm_5 rfl rfl ?_
  refine a_iconstN (a := 0) dM_calm_6 (by decide) ?_
  refine a_bipushN (a := 99) dM_calm_7 (by decide) ?_
  refine a_callS (Q' := m_res (some (.int (f_in z (nI 0) (nI 99)))) (m_up I 95 0 (nI 0)) J R) (as := [.int z, .int (nI 0), .int (nI 99)]) (st := []) dM_calm_9 ml12_102 rfl (Nat.le_of_ble_eq_true rfl) (Nat.le_of_ble_eq_true rfl) rfl (Nat.le_refl _) (Nat.le_refl _) c_M_in (m_go ?_)
  show AW _ _ _ _ _ _ _ _ [.int (f_in z (nI 0) (nI 99))] _ _ _ _
  refine a_if_eq (tgt := 31) dM_calm_12 (by decide) (fun c12 => ?_) (fun c12 => ?_)
  · refine a_iconst (v := -1) dM_calm_31 (by decide) ?_
    exact a_iret dM_calm_32 rfl ⟨rfl, (KP.up KP.refl (by omega)), (KF.refl hR)⟩
  · refine a_aload_n 0 dM_calm_15 rfl rfl ?_
    refine a_iload_n 1 dM_calm_16 rfl rfl ?_
    refine a_callV (Q' := m_res (some (.int 0)) (m_up I 95 0 (nI 0)) J R) (as := [.int x]) (st := []) dM_calm_17 ml12_277 rfl (Nat.le_of_ble_eq_true rfl) ly_95 rfl rfl (by decide) (by omega) (Nat.le_of_ble_eq_true rfl) rfl (Nat.le_refl _) (Nat.le_refl _) (c_M_hand0 (I := cdI I) hn hR h0) (m_go ?_)
    show AW _ _ _ _ _ _ _ _ [.int 0] _ _ _ _
    refine a_if_eq (tgt := 31) dM_calm_20 (by decide) (fun _ => ?_) (fun c => False.elim (c rfl))
    refine a_iconst (v := -1) dM_calm_31 (by decide) ?_
    exact a_iret dM_calm_32 rfl ⟨rfl, (KP.up KP.refl (by omega)), (KF.refl hR)⟩
theorem q_M_calm1 {S : Nat × (Nat → Int32)} {d n : Nat} {I : mI} {J : mJ} {R : mR} (hn : 122 ≤ n) (hR : m_fin R) {ko nh nl : Nat} (hk : ko < 2) (h1 : f_in (nI ko) 0 (I 100 0 - 1) = 1) (hh : oR I ko 0 = nI nh) (hnh : nh ≤ 6) (hl : oR I ko 1 = nI nl) (hnl : nl ≤ 10) (hW : WFk I ko) (hH : WFh (fun l => oR I ko (9 + l)) nl) {y : Int32} {z : Int32} {u : Int32} (hb : f_in z 0 (nI 99) = 0 ∨ f_in y 0 (nI nh - 1) = 0)  : AW S (d + 5) YM_calm n n (qV I R (.int (-1))) 0 [(0, .ref 95), (1, .int (nI ko)), (2, .int y), (3, .int z), (4, .int u)] [] I J R n := by
  refine a_aload_n 0 dM_calm_0 rfl rfl ?_
  refine a_iconstN (a := 0) dM_calm_1 (by decide) ?_
  refine a_puti dM_calm_2 fl12_90 rfl ly_95 (by omega) ?_
  refine a_iload_n 3 dM_calm_5 rfl rfl ?_
  refine a_iconstN (a := 0) dM_calm_6 (by decide) ?_
  refine a_bipushN (a := 99) dM_calm_7 (by decide) ?_
  refine a_callS (Q' := m_res (some (.int (f_in z (nI 0) (nI 99)))) (m_up I 95 0 (nI 0)) J R) (as := [.int z, .int (nI 0), .int (nI 99)]) (st := []) dM_calm_9 ml12_102 rfl (Nat.le_of_ble_eq_true rfl) (Nat.le_of_ble_eq_true rfl) rfl (Nat.le_refl _) (Nat.le_refl _) c_M_in (m_go ?_)
  show AW _ _ _ _ _ _ _ _ [.int (f_in z (nI 0) (nI 99))] _ _ _ _
  refine a_if_eq (tgt := 31) dM_calm_12 (by decide) (fun c12 => ?_) (fun c12 => ?_)
  · refine a_iconst (v := -1) dM_calm_31 (by decide) ?_
    exact a_iret dM_calm_32 rfl ⟨rfl, (KP.up KP.refl (by omega)), (KF.refl hR)⟩
  · refine a_aload_n 0 dM_calm_15 rfl rfl ?_
    refine a_iload_n 1 dM_calm_16 rfl rfl ?_
    refine a_callV (Q' := m_res (some (.int 1)) (hdI (cdI I) ko) J R) (as := [.int (nI ko)]) (st := []) dM_calm_17 ml12_277 rfl (Nat.le_of_ble_eq_true rfl) ly_95 rfl rfl (by decide) (by omega) (Nat.le_of_ble_eq_true rfl) rfl (Nat.le_refl _) (Nat.le_refl _) (c_M_hand (I := cdI I) hn hR (by omega) h1) (m_go ?_)
    show AW _ _ _ _ _ _ _ _ [.int 1] _ _ _ _
    refine a_if_eq (tgt := 31) dM_calm_20 (by decide) (fun c => False.elim (absurd c (by decide))) (fun _ => ?_)
    refine a_aload_n 0 dM_calm_23 rfl rfl ?_
    refine a_iload_n 2 dM_calm_24 rfl rfl ?_
    refine a_callV (Q' := m_res (some (.int (f_in y 0 (nI nh - 1)))) (hdI (cdI I) ko) J R) (as := [.int y]) (st := []) dM_calm_25 ml12_322 rfl (Nat.le_of_ble_eq_true rfl) ly_95 rfl rfl (by decide) (by omega) (Nat.le_of_ble_eq_true rfl) rfl (Nat.le_refl _) (Nat.le_refl _) (by have h := c_M_isHouse (S := S) (d := d + 3) (n := n) (J := J) (R := R) (I := (hdI (cdI I) ko)) (h := y) hn; rw [hc24 hh] at h; exact h) (m_go ?_)
    show AW _ _ _ _ _ _ _ _ [.int (f_in y 0 (nI nh - 1))] _ _ _ _
    refine a_if_ne (tgt := 33) dM_calm_28 (by decide) (fun c28 => ?_) (fun c28 => ?_)
    · exfalso
      rcases hb with hb | hb
      · exact c12 hb
      · exact c28 hb
    · refine a_iconst (v := -1) dM_calm_31 (by decide) ?_
      exact a_iret dM_calm_32 rfl ⟨rfl, hcP, (KF.refl hR)⟩
theorem q_M_calm {S : Nat × (Nat → Int32)} {d n : Nat} {I : mI} {J : mJ} {R : mR} (hn : 122 ≤ n) (hR : m_fin R) {ko nh nl : Nat} (hk : ko < 2) (h1 : f_in (nI ko) 0 (I 100 0 - 1) = 1) (hh : oR I ko 0 = nI nh) (hnh : nh ≤ 6) (hl : oR I ko 1 = nI nl) (hnl : nl ≤ 10) (hW : WFk I ko) (hH : WFh (fun l => oR I ko (9 + l)) nl) {h z : Nat} (hh6 : h < nh) (hz : z ≤ 99) {u : Int32}  : AW S (d + 5) YM_calm n n (qV I R (.int (clR (hdI (cdI I) ko) ko nl h (nI z) u))) 0 [(0, .ref 95), (1, .int (nI ko)), (2, .int (nI h)), (3, .int (nI z)), (4, .int u)] [] I J R n := by
  refine a_aload_n 0 dM_calm_0 rfl rfl ?_
  refine a_iconstN (a := 0) dM_calm_1 (by decide) ?_
  refine a_puti dM_calm_2 fl12_90 rfl ly_95 (by omega) ?_
  refine a_iload_n 3 dM_calm_5 rfl rfl ?_
  refine a_iconstN (a := 0) dM_calm_6 (by decide) ?_
  refine a_bipushN (a := 99) dM_calm_7 (by decide) ?_
  refine a_callS (Q' := m_res (some (.int 1)) (m_up I 95 0 (nI 0)) J R) (as := [.int (nI z), .int (nI 0), .int (nI 99)]) (st := []) dM_calm_9 ml12_102 rfl (Nat.le_of_ble_eq_true rfl) (Nat.le_of_ble_eq_true rfl) rfl (Nat.le_refl _) (Nat.le_refl _) (c_M_inE (f_in_n (lo := 0) (by omega) hz (by omega))) (m_go ?_)
  show AW _ _ _ _ _ _ _ _ [.int 1] _ _ _ _
  refine a_if_eq (tgt := 31) dM_calm_12 (by decide) (fun c => False.elim (absurd c (by decide))) (fun _ => ?_)
  refine a_aload_n 0 dM_calm_15 rfl rfl ?_
  refine a_iload_n 1 dM_calm_16 rfl rfl ?_
  refine a_callV (Q' := m_res (some (.int 1)) (hdI (cdI I) ko) J R) (as := [.int (nI ko)]) (st := []) dM_calm_17 ml12_277 rfl (Nat.le_of_ble_eq_true rfl) ly_95 rfl rfl (by decide) (by omega) (Nat.le_of_ble_eq_true rfl) rfl (Nat.le_refl _) (Nat.le_refl _) (c_M_hand (I := cdI I) hn hR (by omega) h1) (m_go ?_)
  show AW _ _ _ _ _ _ _ _ [.int 1] _ _ _ _
  refine a_if_eq (tgt := 31) dM_calm_20 (by decide) (fun c => False.elim (absurd c (by decide))) (fun _ => ?_)
  refine a_aload_n 0 dM_calm_23 rfl rfl ?_
  refine a_iload_n 2 dM_calm_24 rfl rfl ?_
  refine a_callV (Q' := m_res (some (.int 1)) (hdI (cdI I) ko) J R) (as := [.int (nI h)]) (st := []) dM_calm_25 ml12_322 rfl (Nat.le_of_ble_eq_true rfl) ly_95 rfl rfl (by decide) (by omega) (Nat.le_of_ble_eq_true rfl) rfl (Nat.le_refl _) (Nat.le_refl _) (by have h := c_M_isHouse (S := S) (d := d + 3) (n := n) (J := J) (R := R) (I := (hdI (cdI I) ko)) (h := (nI h)) hn; rw [hc24 hh, (f_in_c hh6 (by omega))] at h; exact h) (m_go ?_)
  show AW _ _ _ _ _ _ _ _ [.int 1] _ _ _ _
  refine a_if_ne (tgt := 33) dM_calm_28 (by decide) (fun _ => ?_) (fun c => False.elim (absurd c (by decide)))
  refine a_locs (lv' := [(0, .ref 95), (2, .int (nI h)), (3, .int (nI z)), (4, .int u)]) [0, 2, 3, 4] rfl ?_
  exact b_M_calm (S := S) (d := d) (n := n) (J := J) (R := R) (I := (hdI (cdI I) ko)) hn hR hd_23 (by omega) (hc24 hh) hnh (hc25 hl) hnl hW.hd hh6 (fun lo => ⟨rfl, (KP.row hcP (by omega)), KF.refl hR⟩)
theorem q_M_hoped0 {S : Nat × (Nat → Int32)} {d n : Nat} {I : mI} {J : mJ} {R : mR} (hn : 122 ≤ n) (hR : m_fin R) {x : Int32} (h0 : f_in x 0 (I 100 0 - 1) = 0) {y : Int32} {u : Int32}  : AW S (d + 5) YM_hoped n n (qV I R (.long (-1000000000000))) 0 [(0, .ref 95), (1, .int x), (2, .int y), (3, .int u)] [] I J R n := by
  refine a_aload_n 0 dM_hoped_0 rfl rfl ?_
  refine a_iconstN (a := 0) dM_hoped_1 (by decide) ?_
  refine a_puti dM_hoped_2 fl12_90 rfl ly_95 (by omega) ?_
  refine a_aload_n 0 dM_hoped_5 rfl rfl ?_
  refine a_iload_n 1 dM_hoped_6 rfl rfl ?_
  refine a_callV (Q' := m_res (some (.int 0)) (m_up I 95 0 (nI 0)) J R) (as := [.int x]) (st := []) dM_hoped_7 ml12_277 rfl (Nat.le_of_ble_eq_true rfl) ly_95 rfl rfl (by decide) (by omega) (Nat.le_of_ble_eq_true rfl) rfl (Nat.le_refl _) (Nat.le_refl _) (c_M_hand0 (I := cdI I) hn hR h0) (m_go ?_)
  show AW _ _ _ _ _ _ _ _ [.int 0] _ _ _ _
  refine a_if_eq (tgt := 25) dM_hoped_10 (by decide) (fun _ => ?_) (fun c => False.elim (c rfl))
  refine a_ldc2 (v := (-1000000000000)) dM_hoped_25 cn12_379 ?_
  exact a_lret dM_hoped_28 rfl ⟨rfl, (KP.up KP.refl (by omega)), (KF.refl hR)⟩
theorem q_M_hoped1 {S : Nat × (Nat → Int32)} {d n : Nat} {I : mI} {J : mJ} {R : mR} (hn : 122 ≤ n) (hR : m_fin R) {ko nh nl : Nat} (hk : ko < 2) (h1 : f_in (nI ko) 0 (I 100 0 - 1) = 1) (hh : oR I ko 0 = nI nh) (hnh : nh ≤ 6) (hl : oR I ko 1 = nI nl) (hnl : nl ≤ 10) (hW : WFk I ko) (hH : WFh (fun l => oR I ko (9 + l)) nl) {y : Int32} {u : Int32} (hb : f_in y 0 (nI nl) = 0)  : AW S (d + 5) YM_hoped n n (qV I R (.long (-1000000000000))) 0 [(0, .ref 95), (1, .int (nI ko)), (2, .int y), (3, .int u)] [] I J R n := by
  refine a_aload_n 0 dM_hoped_0 rfl rfl ?_
  refine a_iconstN (a := 0) dM_hoped_1 (by decide) ?_
  refine a_puti dM_hoped_2 fl12_90 rfl ly_95 (by omega) ?_
  refine a_aload_n 0 dM_hoped_5 rfl rfl ?_
  refine a_iload_n 1 dM_hoped_6 rfl rfl ?_
  refine a_callV (Q' := m_res (some (.int 1)) (hdI (cdI I) ko) J R) (as := [.int (nI ko)]) (st := []) dM_hoped_7 ml12_277 rfl (Nat.le_of_ble_eq_true rfl) ly_95 rfl rfl (by decide) (by omega) (Nat.le_of_ble_eq_true rfl) rfl (Nat.le_refl _) (Nat.le_refl _) (c_M_hand (I := cdI I) hn hR (by omega) h1) (m_go ?_)
  show AW _ _ _ _ _ _ _ _ [.int 1] _ _ _ _
  refine a_if_eq (tgt := 25) dM_hoped_10 (by decide) (fun c => False.elim (absurd c (by decide))) (fun _ => ?_)
  refine a_iload_n 2 dM_hoped_13 rfl rfl ?_
  refine a_iconstN (a := 0) dM_hoped_14 (by decide) ?_
  refine a_aload_n 0 dM_hoped_15 rfl rfl ?_
  refine a_geti dM_hoped_16 fl12_262 rfl ly_95 (by omega) ?_
  rw [show (hdI (cdI I) ko) 95 25 = (nI nl) from (hc25 hl)]
  refine a_callS (Q' := m_res (some (.int (f_in y (nI 0) (nI nl)))) (hdI (cdI I) ko) J R) (as := [.int y, .int (nI 0), .int (nI nl)]) (st := []) dM_hoped_19 ml12_102 rfl (Nat.le_of_ble_eq_true rfl) (Nat.le_of_ble_eq_true rfl) rfl (Nat.le_refl _) (Nat.le_refl _) c_M_in (m_go ?_)
  show AW _ _ _ _ _ _ _ _ [.int (f_in y (nI 0) (nI nl))] _ _ _ _
  refine a_if_ne (tgt := 29) dM_hoped_22 (by decide) (fun c22 => ?_) (fun c22 => ?_)
  · exfalso
    exact c22 hb
  · refine a_ldc2 (v := (-1000000000000)) dM_hoped_25 cn12_379 ?_
    exact a_lret dM_hoped_28 rfl ⟨rfl, hcP, (KF.refl hR)⟩
theorem q_M_hoped {S : Nat × (Nat → Int32)} {d n : Nat} {I : mI} {J : mJ} {R : mR} (hn : 122 ≤ n) (hR : m_fin R) {ko nh nl : Nat} (hk : ko < 2) (h1 : f_in (nI ko) 0 (I 100 0 - 1) = 1) (hh : oR I ko 0 = nI nh) (hnh : nh ≤ 6) (hl : oR I ko 1 = nI nl) (hnl : nl ≤ 10) (hW : WFk I ko) (hH : WFh (fun l => oR I ko (9 + l)) nl) {q : Nat} (hq : q ≤ nl) {u : Int32}  : AW S (d + 5) YM_hoped n n (qV I R (.long (hoR (hdI (cdI I) ko) ko nh nl q u))) 0 [(0, .ref 95), (1, .int (nI ko)), (2, .int (nI q)), (3, .int u)] [] I J R n := by
  refine a_aload_n 0 dM_hoped_0 rfl rfl ?_
  refine a_iconstN (a := 0) dM_hoped_1 (by decide) ?_
  refine a_puti dM_hoped_2 fl12_90 rfl ly_95 (by omega) ?_
  refine a_aload_n 0 dM_hoped_5 rfl rfl ?_
  refine a_iload_n 1 dM_hoped_6 rfl rfl ?_
  refine a_callV (Q' := m_res (some (.int 1)) (hdI (cdI I) ko) J R) (as := [.int (nI ko)]) (st := []) dM_hoped_7 ml12_277 rfl (Nat.le_of_ble_eq_true rfl) ly_95 rfl rfl (by decide) (by omega) (Nat.le_of_ble_eq_true rfl) rfl (Nat.le_refl _) (Nat.le_refl _) (c_M_hand (I := cdI I) hn hR (by omega) h1) (m_go ?_)
  show AW _ _ _ _ _ _ _ _ [.int 1] _ _ _ _
  refine a_if_eq (tgt := 25) dM_hoped_10 (by decide) (fun c => False.elim (absurd c (by decide))) (fun _ => ?_)
  refine a_iload_n 2 dM_hoped_13 rfl rfl ?_
  refine a_iconstN (a := 0) dM_hoped_14 (by decide) ?_
  refine a_aload_n 0 dM_hoped_15 rfl rfl ?_
  refine a_geti dM_hoped_16 fl12_262 rfl ly_95 (by omega) ?_
  rw [show (hdI (cdI I) ko) 95 25 = (nI nl) from (hc25 hl)]
  refine a_callS (Q' := m_res (some (.int 1)) (hdI (cdI I) ko) J R) (as := [.int (nI q), .int (nI 0), .int (nI nl)]) (st := []) dM_hoped_19 ml12_102 rfl (Nat.le_of_ble_eq_true rfl) (Nat.le_of_ble_eq_true rfl) rfl (Nat.le_refl _) (Nat.le_refl _) (c_M_inE (f_in_n (lo := 0) (by omega) hq (by omega))) (m_go ?_)
  show AW _ _ _ _ _ _ _ _ [.int 1] _ _ _ _
  refine a_if_ne (tgt := 29) dM_hoped_22 (by decide) (fun _ => ?_) (fun c => False.elim (absurd c (by decide)))
  refine a_locs (lv' := [(0, .ref 95), (2, .int (nI q)), (3, .int u)]) [0, 2, 3] rfl ?_
  exact b_M_hoped (S := S) (d := d) (n := n) (J := J) (R := R) (I := (hdI (cdI I) ko)) hn hR hd_23 (by omega) (hc24 hh) hnh (hc25 hl) hnl hW.hd hq (fun lo => ⟨rfl, (KP.row hcP (by omega)), KF.refl hR⟩)
theorem q_M_strike0 {S : Nat × (Nat → Int32)} {d n : Nat} {I : mI} {J : mJ} {R : mR} (hn : 122 ≤ n) (hR : m_fin R) {x : Int32} (h0 : f_in x 0 (I 100 0 - 1) = 0) {y : Int32} {u : Int32}  : AW S (d + 8) YM_strike n n (qV I R (.long (-1))) 0 [(0, .ref 95), (1, .int x), (2, .int y), (3, .int u)] [] I J R n := by
  refine a_aload_n 0 dM_strike_0 rfl rfl ?_
  refine a_iconstN (a := 0) dM_strike_1 (by decide) ?_
  refine a_puti dM_strike_2 fl12_90 rfl ly_95 (by omega) ?_
  refine a_iload_n 2 dM_strike_5 rfl rfl ?_
  refine a_iconstN (a := 0) dM_strike_6 (by decide) ?_
  refine a_iconstN (a := 3) dM_strike_7 (by decide) ?_
  refine a_callS (Q' := m_res (some (.int (f_in y (nI 0) (nI 3)))) (m_up I 95 0 (nI 0)) J R) (as := [.int y, .int (nI 0), .int (nI 3)]) (st := []) dM_strike_8 ml12_102 rfl (Nat.le_of_ble_eq_true rfl) (Nat.le_of_ble_eq_true rfl) rfl (Nat.le_refl _) (Nat.le_refl _) c_M_in (m_go ?_)
  show AW _ _ _ _ _ _ _ _ [.int (f_in y (nI 0) (nI 3))] _ _ _ _
  refine a_if_eq (tgt := 30) dM_strike_11 (by decide) (fun c11 => ?_) (fun c11 => ?_)
  · refine a_ldc2 (v := (-1)) dM_strike_30 cn12_388 ?_
    exact a_lret dM_strike_33 rfl ⟨rfl, (KP.up KP.refl (by omega)), (KF.refl hR)⟩
  · refine a_aload_n 0 dM_strike_14 rfl rfl ?_
    refine a_iload_n 1 dM_strike_15 rfl rfl ?_
    refine a_callV (Q' := m_res (some (.int 0)) (m_up I 95 0 (nI 0)) J R) (as := [.int x]) (st := []) dM_strike_16 ml12_277 rfl (Nat.le_of_ble_eq_true rfl) ly_95 rfl rfl (by decide) (by omega) (Nat.le_of_ble_eq_true rfl) rfl (Nat.le_refl _) (Nat.le_refl _) (c_M_hand0 (I := cdI I) hn hR h0) (m_go ?_)
    show AW _ _ _ _ _ _ _ _ [.int 0] _ _ _ _
    refine a_if_eq (tgt := 30) dM_strike_19 (by decide) (fun _ => ?_) (fun c => False.elim (c rfl))
    refine a_ldc2 (v := (-1)) dM_strike_30 cn12_388 ?_
    exact a_lret dM_strike_33 rfl ⟨rfl, (KP.up KP.refl (by omega)), (KF.refl hR)⟩
theorem q_M_strike1 {S : Nat × (Nat → Int32)} {d n : Nat} {I : mI} {J : mJ} {R : mR} (hn : 122 ≤ n) (hR : m_fin R) {ko nh nl : Nat} (hk : ko < 2) (h1 : f_in (nI ko) 0 (I 100 0 - 1) = 1) (hh : oR I ko 0 = nI nh) (hnh : nh ≤ 6) (hl : oR I ko 1 = nI nl) (hnl : nl ≤ 10) (hW : WFk I ko) (hH : WFh (fun l => oR I ko (9 + l)) nl) {y : Int32} {u : Int32} (hb : f_in y 0 (nI 3) = 0 ∨ nI nl < y)  : AW S (d + 8) YM_strike n n (qV I R (.long (-1))) 0 [(0, .ref 95), (1, .int (nI ko)), (2, .int y), (3, .int u)] [] I J R n := by
  refine a_aload_n 0 dM_strike_0 rfl rfl ?_
  refine a_iconstN (a := 0) dM_strike_1 (by decide) ?_
  refine a_puti dM_strike_2 fl12_90 rfl ly_95 (by omega) ?_
  refine a_iload_n 2 dM_strike_5 rfl rfl ?_
  refine a_iconstN (a := 0) dM_strike_6 (by decide) ?_
  refine a_iconstN (a := 3) dM_strike_7 (by decide) ?_
  refine a_callS (Q' := m_res (some (.int (f_in y (nI 0) (nI 3)))) (m_up I 95 0 (nI 0)) J R) (as := [.int y, .int (nI 0), .int (nI 3)]) (st := []) dM_strike_8 ml12_102 rfl (Nat.le_of_ble_eq_true rfl) (Nat.le_of_ble_eq_true rfl) rfl (Nat.le_refl _) (Nat.le_refl _) c_M_in (m_go ?_)
  show AW _ _ _ _ _ _ _ _ [.int (f_in y (nI 0) (nI 3))] _ _ _ _
  refine a_if_eq (tgt := 30) dM_strike_11 (by decide) (fun c11 => ?_) (fun c11 => ?_)
  · refine a_ldc2 (v := (-1)) dM_strike_30 cn12_388 ?_
    exact a_lret dM_strike_33 rfl ⟨rfl, (KP.up KP.refl (by omega)), (KF.refl hR)⟩
  · refine a_aload_n 0 dM_strike_14 rfl rfl ?_
    refine a_iload_n 1 dM_strike_15 rfl rfl ?_
    refine a_callV (Q' := m_res (some (.int 1)) (hdI (cdI I) ko) J R) (as := [.int (nI ko)]) (st := []) dM_strike_16 ml12_277 rfl (Nat.le_of_ble_eq_true rfl) ly_95 rfl rfl (by decide) (by omega) (Nat.le_of_ble_eq_true rfl) rfl (Nat.le_refl _) (Nat.le_refl _) (c_M_hand (I := cdI I) hn hR (by omega) h1) (m_go ?_)
    show AW _ _ _ _ _ _ _ _ [.int 1] _ _ _ _
    refine a_if_eq (tgt := 30) dM_strike_19 (by decide) (fun c => False.elim (absurd c (by decide))) (fun _ => ?_)
    refine a_iload_n 2 dM_strike_22 rfl rfl ?_
    refine a_aload_n 0 dM_strike_23 rfl rfl ?_
    refine a_geti dM_strike_24 fl12_262 rfl ly_95 (by omega) ?_
    rw [show (hdI (cdI I) ko) 95 25 = (nI nl) from (hc25 hl)]
    refine a_icmp_le (tgt := 34) dM_strike_27 (by decide) (fun c27 => ?_) (fun c27 => ?_)
    · exfalso
      rcases hb with hb | hb
      · exact c11 hb
      · exact absurd hb (Int32.not_lt.mpr c27)
    · refine a_ldc2 (v := (-1)) dM_strike_30 cn12_388 ?_
      exact a_lret dM_strike_33 rfl ⟨rfl, hcP, (KF.refl hR)⟩
theorem q_M_strike {S : Nat × (Nat → Int32)} {d n : Nat} {I : mI} {J : mJ} {R : mR} (hn : 122 ≤ n) (hR : m_fin R) {ko nh nl : Nat} (hk : ko < 2) (h1 : f_in (nI ko) 0 (I 100 0 - 1) = 1) (hh : oR I ko 0 = nI nh) (hnh : nh ≤ 6) (hl : oR I ko 1 = nI nl) (hnl : nl ≤ 10) (hW : WFk I ko) (hH : WFh (fun l => oR I ko (9 + l)) nl) (hnh1 : 1 ≤ nh) {q : Nat} (hq : q ≤ nl) (hq3 : q ≤ 3) {u : Int32}  : AW S (d + 8) YM_strike n n (qV I R (.long (skR (hdI (cdI I) ko) ko nh nl q u))) 0 [(0, .ref 95), (1, .int (nI ko)), (2, .int (nI q)), (3, .int u)] [] I J R n := by
  refine a_aload_n 0 dM_strike_0 rfl rfl ?_
  refine a_iconstN (a := 0) dM_strike_1 (by decide) ?_
  refine a_puti dM_strike_2 fl12_90 rfl ly_95 (by omega) ?_
  refine a_iload_n 2 dM_strike_5 rfl rfl ?_
  refine a_iconstN (a := 0) dM_strike_6 (by decide) ?_
  refine a_iconstN (a := 3) dM_strike_7 (by decide) ?_
  refine a_callS (Q' := m_res (some (.int 1)) (m_up I 95 0 (nI 0)) J R) (as := [.int (nI q), .int (nI 0), .int (nI 3)]) (st := []) dM_strike_8 ml12_102 rfl (Nat.le_of_ble_eq_true rfl) (Nat.le_of_ble_eq_true rfl) rfl (Nat.le_refl _) (Nat.le_refl _) (c_M_inE (f_in_n (lo := 0) (by omega) hq3 (by omega))) (m_go ?_)
  show AW _ _ _ _ _ _ _ _ [.int 1] _ _ _ _
  refine a_if_eq (tgt := 30) dM_strike_11 (by decide) (fun c => False.elim (absurd c (by decide))) (fun _ => ?_)
  refine a_aload_n 0 dM_strike_14 rfl rfl ?_
  refine a_iload_n 1 dM_strike_15 rfl rfl ?_
  refine a_callV (Q' := m_res (some (.int 1)) (hdI (cdI I) ko) J R) (as := [.int (nI ko)]) (st := []) dM_strike_16 ml12_277 rfl (Nat.le_of_ble_eq_true rfl) ly_95 rfl rfl (by decide) (by omega) (Nat.le_of_ble_eq_true rfl) rfl (Nat.le_refl _) (Nat.le_refl _) (c_M_hand (I := cdI I) hn hR (by omega) h1) (m_go ?_)
  show AW _ _ _ _ _ _ _ _ [.int 1] _ _ _ _
  refine a_if_eq (tgt := 30) dM_strike_19 (by decide) (fun c => False.elim (absurd c (by decide))) (fun _ => ?_)
  refine a_iload_n 2 dM_strike_22 rfl rfl ?_
  refine a_aload_n 0 dM_strike_23 rfl rfl ?_
  refine a_geti dM_strike_24 fl12_262 rfl ly_95 (by omega) ?_
  rw [show (hdI (cdI I) ko) 95 25 = (nI nl) from (hc25 hl)]
  refine a_icmp_leN (tgt := 34) dM_strike_27 (by decide) (by omega) (by omega) (fun _ => ?_) (fun c => False.elim (by omega))
  refine a_locs (lv' := [(0, .ref 95), (2, .int (nI q)), (3, .int u)]) [0, 2, 3] rfl ?_
  exact b_M_strike (S := S) (d := d) (n := n) (J := J) (R := R) (I := (hdI (cdI I) ko)) hn hR hd_23 (by omega) (hc24 hh) hnh (hc25 hl) hnl hW.hd hnh1 (hcH hnl hH) hq hq3 (fun f md ls cm => ⟨rfl, (KP.row (KP.row (KP.row (KP.row hcP (by omega)) (by omega)) (by omega)) (by omega)), KF.refl hR⟩)
theorem q_M_order0 {S : Nat × (Nat → Int32)} {d n : Nat} {I : mI} {J : mJ} {R : mR} (hn : 122 ≤ n) (hR : m_fin R) {x : Int32} (h0 : f_in x 0 (I 100 0 - 1) = 0) {y : Int32} {u : Int32} {z : Int32}  : AW S (d + 8) YM_order n n (qV I R (.int (-1000))) 0 [(0, .ref 95), (1, .int x), (2, .int y), (3, .int u), (4, .int z)] [] I J R n := by
  refine a_aload_n 0 dM_order_0 rfl rfl ?_
  refine a_iconstN (a := 0) dM_order_1 (by decide) ?_
  refine a_puti dM_order_2 fl12_90 rfl ly_95 (by omega) ?_
  refine a_aload_n 0 dM_order_5 rfl rfl ?_
  refine a_iload_n 1 dM_order_6 rfl rfl ?_
  refine a_callV (Q' := m_res (some (.int 0)) (m_up I 95 0 (nI 0)) J R) (as := [.int x]) (st := []) dM_order_7 ml12_277 rfl (Nat.le_of_ble_eq_true rfl) ly_95 rfl rfl (by decide) (by omega) (Nat.le_of_ble_eq_true rfl) rfl (Nat.le_refl _) (Nat.le_refl _) (c_M_hand0 (I := cdI I) hn hR h0) (m_go ?_)
  show AW _ _ _ _ _ _ _ _ [.int 0] _ _ _ _
  refine a_if_eq (tgt := 21) dM_order_10 (by decide) (fun _ => ?_) (fun c => False.elim (c rfl))
  refine a_sipush (v := -1000) dM_order_21 (by decide) ?_
  exact a_iret dM_order_24 rfl ⟨rfl, (KP.up KP.refl (by omega)), (KF.refl hR)⟩
theorem q_M_order1 {S : Nat × (Nat → Int32)} {d n : Nat} {I : mI} {J : mJ} {R : mR} (hn : 122 ≤ n) (hR : m_fin R) {ko nh nl : Nat} (hk : ko < 2) (h1 : f_in (nI ko) 0 (I 100 0 - 1) = 1) (hh : oR I ko 0 = nI nh) (hnh : nh ≤ 6) (hl : oR I ko 1 = nI nl) (hnl : nl ≤ 10) (hW : WFk I ko) (hH : WFh (fun l => oR I ko (9 + l)) nl) {y : Int32} {u : Int32} {z : Int32} (hb : f_in y 0 (nI nh - 1) = 0)  : AW S (d + 8) YM_order n n (qV I R (.int (-1000))) 0 [(0, .ref 95), (1, .int (nI ko)), (2, .int y), (3, .int u), (4, .int z)] [] I J R n := by
  refine a_aload_n 0 dM_order_0 rfl rfl ?_
  refine a_iconstN (a := 0) dM_order_1 (by decide) ?_
  refine a_puti dM_order_2 fl12_90 rfl ly_95 (by omega) ?_
  refine a_aload_n 0 dM_order_5 rfl rfl ?_
  refine a_iload_n 1 dM_order_6 rfl rfl ?_
  refine a_callV (Q' := m_res (some (.int 1)) (hdI (cdI I) ko) J R) (as := [.int (nI ko)]) (st := []) dM_order_7 ml12_277 rfl (Nat.le_of_ble_eq_true rfl) ly_95 rfl rfl (by decide) (by omega) (Nat.le_of_ble_eq_true rfl) rfl (Nat.le_refl _) (Nat.le_refl _) (c_M_hand (I := cdI I) hn hR (by omega) h1) (m_go ?_)
  show AW _ _ _ _ _ _ _ _ [.int 1] _ _ _ _
  refine a_if_eq (tgt := 21) dM_order_10 (by decide) (fun c => False.elim (absurd c (by decide))) (fun _ => ?_)
  refine a_aload_n 0 dM_order_13 rfl rfl ?_
  refine a_iload_n 2 dM_order_14 rfl rfl ?_
  refine a_callV (Q' := m_res (some (.int (f_in y 0 (nI nh - 1)))) (hdI (cdI I) ko) J R) (as := [.int y]) (st := []) dM_order_15 ml12_322 rfl (Nat.le_of_ble_eq_true rfl) ly_95 rfl rfl (by decide) (by omega) (Nat.le_of_ble_eq_true rfl) rfl (Nat.le_refl _) (Nat.le_refl _) (by have h := c_M_isHouse (S := S) (d := d + 6) (n := n) (J := J) (R := R) (I := (hdI (cdI I) ko)) (h := y) hn; rw [hc24 hh] at h; exact h) (m_go ?_)
  show AW _ _ _ _ _ _ _ _ [.int (f_in y 0 (nI nh - 1))] _ _ _ _
  refine a_if_ne (tgt := 25) dM_order_18 (by decide) (fun c18 => ?_) (fun c18 => ?_)
  · exfalso
    exact c18 hb
  · refine a_sipush (v := -1000) dM_order_21 (by decide) ?_
    exact a_iret dM_order_24 rfl ⟨rfl, hcP, (KF.refl hR)⟩
theorem q_M_orderB {S : Nat × (Nat → Int32)} {d n : Nat} {I : mI} {J : mJ} {R : mR} (hn : 122 ≤ n) (hR : m_fin R) {ko nh nl : Nat} (hk : ko < 2) (h1 : f_in (nI ko) 0 (I 100 0 - 1) = 1) (hh : oR I ko 0 = nI nh) (hnh : nh ≤ 6) (hl : oR I ko 1 = nI nl) (hnl : nl ≤ 10) (hW : WFk I ko) (hH : WFh (fun l => oR I ko (9 + l)) nl) {h : Nat} (hh6 : h < nh) {u z : Int32} (hin : f_in z (-1) (nI (onesN (nI (ltN ((hdI (cdI I) ko) 106) (nI h) nl)) 10) - nI 1) = 0)  : AW S (d + 8) YM_order n n (qV I R (.int (-1000))) 0 [(0, .ref 95), (1, .int (nI ko)), (2, .int (nI h)), (3, .int u), (4, .int z)] [] I J R n := by
  refine a_aload_n 0 dM_order_0 rfl rfl ?_
  refine a_iconstN (a := 0) dM_order_1 (by decide) ?_
  refine a_puti dM_order_2 fl12_90 rfl ly_95 (by omega) ?_
  refine a_aload_n 0 dM_order_5 rfl rfl ?_
  refine a_iload_n 1 dM_order_6 rfl rfl ?_
  refine a_callV (Q' := m_res (some (.int 1)) (hdI (cdI I) ko) J R) (as := [.int (nI ko)]) (st := []) dM_order_7 ml12_277 rfl (Nat.le_of_ble_eq_true rfl) ly_95 rfl rfl (by decide) (by omega) (Nat.le_of_ble_eq_true rfl) rfl (Nat.le_refl _) (Nat.le_refl _) (c_M_hand (I := cdI I) hn hR (by omega) h1) (m_go ?_)
  show AW _ _ _ _ _ _ _ _ [.int 1] _ _ _ _
  refine a_if_eq (tgt := 21) dM_order_10 (by decide) (fun c => False.elim (absurd c (by decide))) (fun _ => ?_)
  refine a_aload_n 0 dM_order_13 rfl rfl ?_
  refine a_iload_n 2 dM_order_14 rfl rfl ?_
  refine a_callV (Q' := m_res (some (.int 1)) (hdI (cdI I) ko) J R) (as := [.int (nI h)]) (st := []) dM_order_15 ml12_322 rfl (Nat.le_of_ble_eq_true rfl) ly_95 rfl rfl (by decide) (by omega) (Nat.le_of_ble_eq_true rfl) rfl (Nat.le_refl _) (Nat.le_refl _) (by have h := c_M_isHouse (S := S) (d := d + 6) (n := n) (J := J) (R := R) (I := (hdI (cdI I) ko)) (h := (nI h)) hn; rw [hc24 hh, (f_in_c hh6 (by omega))] at h; exact h) (m_go ?_)
  show AW _ _ _ _ _ _ _ _ [.int 1] _ _ _ _
  refine a_if_ne (tgt := 25) dM_order_18 (by decide) (fun _ => ?_) (fun c => False.elim (absurd c (by decide)))
  refine a_locs (lv' := [(0, .ref 95), (2, .int (nI h)), (3, .int u), (4, .int z)]) [0, 2, 3, 4] rfl ?_
  exact b_M_order0 (S := S) (d := d) (n := n) (J := J) (R := R) (I := (hdI (cdI I) ko)) hn hR hd_23 (by omega) (hc24 hh) hnh (hc25 hl) hnl hW.hd hh6 hin ⟨rfl, hcP, KF.refl hR⟩
theorem q_M_orderM {S : Nat × (Nat → Int32)} {d n : Nat} {I : mI} {J : mJ} {R : mR} (hn : 122 ≤ n) (hR : m_fin R) {ko nh nl : Nat} (hk : ko < 2) (h1 : f_in (nI ko) 0 (I 100 0 - 1) = 1) (hh : oR I ko 0 = nI nh) (hnh : nh ≤ 6) (hl : oR I ko 1 = nI nl) (hnl : nl ≤ 10) (hW : WFk I ko) (hH : WFh (fun l => oR I ko (9 + l)) nl) {h : Nat} (hh6 : h < nh) {u : Int32} (hin : f_in (-1) (-1) (nI (onesN (nI (ltN ((hdI (cdI I) ko) 106) (nI h) nl)) 10) - nI 1) = 1)  : AW S (d + 8) YM_order n n (qV I R (.int (boR (hdI (cdI I) ko) ko nl h (ltN ((hdI (cdI I) ko) 106) (nI h) nl) u ((hdI (cdI I) ko) 110)))) 0 [(0, .ref 95), (1, .int (nI ko)), (2, .int (nI h)), (3, .int u), (4, .int (-1))] [] I J R n := by
  refine a_aload_n 0 dM_order_0 rfl rfl ?_
  refine a_iconstN (a := 0) dM_order_1 (by decide) ?_
  refine a_puti dM_order_2 fl12_90 rfl ly_95 (by omega) ?_
  refine a_aload_n 0 dM_order_5 rfl rfl ?_
  refine a_iload_n 1 dM_order_6 rfl rfl ?_
  refine a_callV (Q' := m_res (some (.int 1)) (hdI (cdI I) ko) J R) (as := [.int (nI ko)]) (st := []) dM_order_7 ml12_277 rfl (Nat.le_of_ble_eq_true rfl) ly_95 rfl rfl (by decide) (by omega) (Nat.le_of_ble_eq_true rfl) rfl (Nat.le_refl _) (Nat.le_refl _) (c_M_hand (I := cdI I) hn hR (by omega) h1) (m_go ?_)
  show AW _ _ _ _ _ _ _ _ [.int 1] _ _ _ _
  refine a_if_eq (tgt := 21) dM_order_10 (by decide) (fun c => False.elim (absurd c (by decide))) (fun _ => ?_)
  refine a_aload_n 0 dM_order_13 rfl rfl ?_
  refine a_iload_n 2 dM_order_14 rfl rfl ?_
  refine a_callV (Q' := m_res (some (.int 1)) (hdI (cdI I) ko) J R) (as := [.int (nI h)]) (st := []) dM_order_15 ml12_322 rfl (Nat.le_of_ble_eq_true rfl) ly_95 rfl rfl (by decide) (by omega) (Nat.le_of_ble_eq_true rfl) rfl (Nat.le_refl _) (Nat.le_refl _) (by have h := c_M_isHouse (S := S) (d := d + 6) (n := n) (J := J) (R := R) (I := (hdI (cdI I) ko)) (h := (nI h)) hn; rw [hc24 hh, (f_in_c hh6 (by omega))] at h; exact h) (m_go ?_)
  show AW _ _ _ _ _ _ _ _ [.int 1] _ _ _ _
  refine a_if_ne (tgt := 25) dM_order_18 (by decide) (fun _ => ?_) (fun c => False.elim (absurd c (by decide)))
  refine a_locs (lv' := [(0, .ref 95), (2, .int (nI h)), (3, .int u), (4, .int (-1))]) [0, 2, 3, 4] rfl ?_
  exact b_M_orderM (S := S) (d := d) (n := n) (J := J) (R := R) (I := (hdI (cdI I) ko)) hn hR hd_23 (by omega) (hc24 hh) hnh (hc25 hl) hnl hW.hd hh6 hin (fun B => ⟨rfl, (KP.row hcP (by omega)), KF.refl hR⟩)
theorem q_M_orderN {S : Nat × (Nat → Int32)} {d n : Nat} {I : mI} {J : mJ} {R : mR} (hn : 122 ≤ n) (hR : m_fin R) {ko nh nl : Nat} (hk : ko < 2) (h1 : f_in (nI ko) 0 (I 100 0 - 1) = 1) (hh : oR I ko 0 = nI nh) (hnh : nh ≤ 6) (hl : oR I ko 1 = nI nl) (hnl : nl ≤ 10) (hW : WFk I ko) (hH : WFh (fun l => oR I ko (9 + l)) nl) {h : Nat} (hh6 : h < nh) {u : Int32} {K : Nat} (hK : K < 10) (hin : f_in (nI K) (-1) (nI (onesN (nI (ltN ((hdI (cdI I) ko) 106) (nI h) nl)) 10) - nI 1) = 1) (hI : ∀ k, k ≤ K → oaK (hdI (cdI I) ko) ko nl (foN (hdI (cdI I) ko) ko nl (nI (ltN ((hdI (cdI I) ko) 106) (nI h) nl)) u ((hdI (cdI I) ko) 110) 1024) (oaN (hdI (cdI I) ko) ko nl (foN (hdI (cdI I) ko) ko nl (nI (ltN ((hdI (cdI I) ko) 106) (nI h) nl)) u ((hdI (cdI I) ko) 110) 1024) ((ltN ((hdI (cdI I) ko) 106) (nI h) nl), -1, -1) k))  : AW S (d + 8) YM_order n n (qV I R (.int ((oaN (hdI (cdI I) ko) ko nl (foN (hdI (cdI I) ko) ko nl (nI (ltN ((hdI (cdI I) ko) 106) (nI h) nl)) u ((hdI (cdI I) ko) 110) 1024) ((ltN ((hdI (cdI I) ko) 106) (nI h) nl), -1, -1) (K + 1)).2.2))) 0 [(0, .ref 95), (1, .int (nI ko)), (2, .int (nI h)), (3, .int u), (4, .int (nI K))] [] I J R n := by
  refine a_aload_n 0 dM_order_0 rfl rfl ?_
  refine a_iconstN (a := 0) dM_order_1 (by decide) ?_
  refine a_puti dM_order_2 fl12_90 rfl ly_95 (by omega) ?_
  refine a_aload_n 0 dM_order_5 rfl rfl ?_
  refine a_iload_n 1 dM_order_6 rfl rfl ?_
  refine a_callV (Q' := m_res (some (.int 1)) (hdI (cdI I) ko) J R) (as := [.int (nI ko)]) (st := []) dM_order_7 ml12_277 rfl (Nat.le_of_ble_eq_true rfl) ly_95 rfl rfl (by decide) (by omega) (Nat.le_of_ble_eq_true rfl) rfl (Nat.le_refl _) (Nat.le_refl _) (c_M_hand (I := cdI I) hn hR (by omega) h1) (m_go ?_)
  show AW _ _ _ _ _ _ _ _ [.int 1] _ _ _ _
  refine a_if_eq (tgt := 21) dM_order_10 (by decide) (fun c => False.elim (absurd c (by decide))) (fun _ => ?_)
  refine a_aload_n 0 dM_order_13 rfl rfl ?_
  refine a_iload_n 2 dM_order_14 rfl rfl ?_
  refine a_callV (Q' := m_res (some (.int 1)) (hdI (cdI I) ko) J R) (as := [.int (nI h)]) (st := []) dM_order_15 ml12_322 rfl (Nat.le_of_ble_eq_true rfl) ly_95 rfl rfl (by decide) (by omega) (Nat.le_of_ble_eq_true rfl) rfl (Nat.le_refl _) (Nat.le_refl _) (by have h := c_M_isHouse (S := S) (d := d + 6) (n := n) (J := J) (R := R) (I := (hdI (cdI I) ko)) (h := (nI h)) hn; rw [hc24 hh, (f_in_c hh6 (by omega))] at h; exact h) (m_go ?_)
  show AW _ _ _ _ _ _ _ _ [.int 1] _ _ _ _
  refine a_if_ne (tgt := 25) dM_order_18 (by decide) (fun _ => ?_) (fun c => False.elim (absurd c (by decide)))
  refine a_locs (lv' := [(0, .ref 95), (2, .int (nI h)), (3, .int u), (4, .int (nI K))]) [0, 2, 3, 4] rfl ?_
  exact b_M_orderN (S := S) (d := d) (n := n) (J := J) (R := R) (I := (hdI (cdI I) ko)) hn hR hd_23 (by omega) (hc24 hh) hnh (hc25 hl) hnl hW.hd hh6 hK hin hI (fun B => ⟨rfl, (KP.row hcP (by omega)), KF.refl hR⟩)
theorem q_M_dear0 {S : Nat × (Nat → Int32)} {d n : Nat} {I : mI} {J : mJ} {R : mR} (hn : 122 ≤ n) (hR : m_fin R) {x : Int32} (h0 : f_in x 0 (I 100 0 - 1) = 0) {y : Int32}  : AW S (d + 9) YM_dear n n (qV I R (.int (-1000))) 0 [(0, .ref 95), (1, .int x), (2, .int y)] [] I J R n := by
  refine a_aload_n 0 dM_dear_0 rfl rfl ?_
  refine a_iconstN (a := 0) dM_dear_1 (by decide) ?_
  refine a_puti dM_dear_2 fl12_90 rfl ly_95 (by omega) ?_
  refine a_aload_n 0 dM_dear_5 rfl rfl ?_
  refine a_iload_n 1 dM_dear_6 rfl rfl ?_
  refine a_callV (Q' := m_res (some (.int 0)) (m_up I 95 0 (nI 0)) J R) (as := [.int x]) (st := []) dM_dear_7 ml12_277 rfl (Nat.le_of_ble_eq_true rfl) ly_95 rfl rfl (by decide) (by omega) (Nat.le_of_ble_eq_true rfl) rfl (Nat.le_refl _) (Nat.le_refl _) (c_M_hand0 (I := cdI I) hn hR h0) (m_go ?_)
  show AW _ _ _ _ _ _ _ _ [.int 0] _ _ _ _
  refine a_if_eq (tgt := 21) dM_dear_10 (by decide) (fun _ => ?_) (fun c => False.elim (c rfl))
  refine a_sipush (v := -1000) dM_dear_21 (by decide) ?_
  exact a_iret dM_dear_24 rfl ⟨rfl, (KP.up KP.refl (by omega)), (KF.refl hR)⟩
theorem q_M_dear1 {S : Nat × (Nat → Int32)} {d n : Nat} {I : mI} {J : mJ} {R : mR} (hn : 122 ≤ n) (hR : m_fin R) {ko nh nl : Nat} (hk : ko < 2) (h1 : f_in (nI ko) 0 (I 100 0 - 1) = 1) (hh : oR I ko 0 = nI nh) (hnh : nh ≤ 6) (hl : oR I ko 1 = nI nl) (hnl : nl ≤ 10) (hW : WFk I ko) (hH : WFh (fun l => oR I ko (9 + l)) nl) {y : Int32} (hb : f_in y 0 (nI nl - 1) = 0)  : AW S (d + 9) YM_dear n n (qV I R (.int (-1000))) 0 [(0, .ref 95), (1, .int (nI ko)), (2, .int y)] [] I J R n := by
  refine a_aload_n 0 dM_dear_0 rfl rfl ?_
  refine a_iconstN (a := 0) dM_dear_1 (by decide) ?_
  refine a_puti dM_dear_2 fl12_90 rfl ly_95 (by omega) ?_
  refine a_aload_n 0 dM_dear_5 rfl rfl ?_
  refine a_iload_n 1 dM_dear_6 rfl rfl ?_
  refine a_callV (Q' := m_res (some (.int 1)) (hdI (cdI I) ko) J R) (as := [.int (nI ko)]) (st := []) dM_dear_7 ml12_277 rfl (Nat.le_of_ble_eq_true rfl) ly_95 rfl rfl (by decide) (by omega) (Nat.le_of_ble_eq_true rfl) rfl (Nat.le_refl _) (Nat.le_refl _) (c_M_hand (I := cdI I) hn hR (by omega) h1) (m_go ?_)
  show AW _ _ _ _ _ _ _ _ [.int 1] _ _ _ _
  refine a_if_eq (tgt := 21) dM_dear_10 (by decide) (fun c => False.elim (absurd c (by decide))) (fun _ => ?_)
  refine a_aload_n 0 dM_dear_13 rfl rfl ?_
  refine a_iload_n 2 dM_dear_14 rfl rfl ?_
  refine a_callV (Q' := m_res (some (.int (f_in y 0 (nI nl - 1)))) (hdI (cdI I) ko) J R) (as := [.int y]) (st := []) dM_dear_15 ml12_280 rfl (Nat.le_of_ble_eq_true rfl) ly_95 rfl rfl (by decide) (by omega) (Nat.le_of_ble_eq_true rfl) rfl (Nat.le_refl _) (Nat.le_refl _) (by have h := c_M_isLetter (S := S) (d := d + 7) (n := n) (J := J) (R := R) (I := (hdI (cdI I) ko)) (h := y) hn; rw [hc25 hl] at h; exact h) (m_go ?_)
  show AW _ _ _ _ _ _ _ _ [.int (f_in y 0 (nI nl - 1))] _ _ _ _
  refine a_if_ne (tgt := 25) dM_dear_18 (by decide) (fun c18 => ?_) (fun c18 => ?_)
  · exfalso
    exact c18 hb
  · refine a_sipush (v := -1000) dM_dear_21 (by decide) ?_
    exact a_iret dM_dear_24 rfl ⟨rfl, hcP, (KF.refl hR)⟩
theorem q_M_dear {S : Nat × (Nat → Int32)} {d n : Nat} {I : mI} {J : mJ} {R : mR} (hn : 122 ≤ n) (hR : m_fin R) {ko nh nl : Nat} (hk : ko < 2) (h1 : f_in (nI ko) 0 (I 100 0 - 1) = 1) (hh : oR I ko 0 = nI nh) (hnh : nh ≤ 6) (hl : oR I ko 1 = nI nl) (hnl : nl ≤ 10) (hW : WFk I ko) (hH : WFh (fun l => oR I ko (9 + l)) nl) {l : Nat} (hln : l < nl)  : AW S (d + 9) YM_dear n n (qV I R (.int (baR (hdI (cdI I) ko) ko nl (hmN ((hdI (cdI I) ko) 106) l) ((hdI (cdI I) ko) 110) - boR (hdI (cdI I) ko) ko nl (hmN ((hdI (cdI I) ko) 106) l) (rmN (ltH (hdI (cdI I) ko) (hmN ((hdI (cdI I) ko) 106) l) nl) l) 0 (baB (hdI (cdI I) ko) ko nl (hmN ((hdI (cdI I) ko) 106) l) ((hdI (cdI I) ko) 110))))) 0 [(0, .ref 95), (1, .int (nI ko)), (2, .int (nI l))] [] I J R n := by
  refine a_aload_n 0 dM_dear_0 rfl rfl ?_
  refine a_iconstN (a := 0) dM_dear_1 (by decide) ?_
  refine a_puti dM_dear_2 fl12_90 rfl ly_95 (by omega) ?_
  refine a_aload_n 0 dM_dear_5 rfl rfl ?_
  refine a_iload_n 1 dM_dear_6 rfl rfl ?_
  refine a_callV (Q' := m_res (some (.int 1)) (hdI (cdI I) ko) J R) (as := [.int (nI ko)]) (st := []) dM_dear_7 ml12_277 rfl (Nat.le_of_ble_eq_true rfl) ly_95 rfl rfl (by decide) (by omega) (Nat.le_of_ble_eq_true rfl) rfl (Nat.le_refl _) (Nat.le_refl _) (c_M_hand (I := cdI I) hn hR (by omega) h1) (m_go ?_)
  show AW _ _ _ _ _ _ _ _ [.int 1] _ _ _ _
  refine a_if_eq (tgt := 21) dM_dear_10 (by decide) (fun c => False.elim (absurd c (by decide))) (fun _ => ?_)
  refine a_aload_n 0 dM_dear_13 rfl rfl ?_
  refine a_iload_n 2 dM_dear_14 rfl rfl ?_
  refine a_callV (Q' := m_res (some (.int 1)) (hdI (cdI I) ko) J R) (as := [.int (nI l)]) (st := []) dM_dear_15 ml12_280 rfl (Nat.le_of_ble_eq_true rfl) ly_95 rfl rfl (by decide) (by omega) (Nat.le_of_ble_eq_true rfl) rfl (Nat.le_refl _) (Nat.le_refl _) (by have h := c_M_isLetter (S := S) (d := d + 7) (n := n) (J := J) (R := R) (I := (hdI (cdI I) ko)) (h := (nI l)) hn; rw [hc25 hl, (f_in_c hln (by omega))] at h; exact h) (m_go ?_)
  show AW _ _ _ _ _ _ _ _ [.int 1] _ _ _ _
  refine a_if_ne (tgt := 25) dM_dear_18 (by decide) (fun _ => ?_) (fun c => False.elim (absurd c (by decide)))
  refine a_locs (lv' := [(0, .ref 95), (2, .int (nI l))]) [0, 2] rfl ?_
  exact b_M_dear (S := S) (d := d) (n := n) (J := J) (R := R) (I := (hdI (cdI I) ko)) hn hR hd_23 (by omega) (hc24 hh) hnh (hc25 hl) hnl hW.hd (hcH hnl hH) hln (fun B => ⟨rfl, (KP.row hcP (by omega)), KF.refl hR⟩)
theorem q_M_spoilt0 {S : Nat × (Nat → Int32)} {d n : Nat} {I : mI} {J : mJ} {R : mR} (hn : 122 ≤ n) (hR : m_fin R) {x : Int32} (h0 : f_in x 0 (I 100 0 - 1) = 0) {y : Int32} {u : Int32}  : AW S (d + 9) YM_spoilt n n (qV I R (.int (-1000))) 0 [(0, .ref 95), (1, .int x), (2, .int y), (3, .int u)] [] I J R n := by
  refine a_aload_n 0 dM_spoilt_0 rfl rfl ?_
  refine a_iconstN (a := 0) dM_spoilt_1 (by decide) ?_
  refine a_puti dM_spoilt_2 fl12_90 rfl ly_95 (by omega) ?_
  refine a_aload_n 0 dM_spoilt_5 rfl rfl ?_
  refine a_iload_n 1 dM_spoilt_6 rfl rfl ?_
  refine a_callV (Q' := m_res (some (.int 0)) (m_up I 95 0 (nI 0)) J R) (as := [.int x]) (st := []) dM_spoilt_7 ml12_277 rfl (Nat.le_of_ble_eq_true rfl) ly_95 rfl rfl (by decide) (by omega) (Nat.le_of_ble_eq_true rfl) rfl (Nat.le_refl _) (Nat.le_refl _) (c_M_hand0 (I := cdI I) hn hR h0) (m_go ?_)
  show AW _ _ _ _ _ _ _ _ [.int 0] _ _ _ _
  refine a_if_eq (tgt := 21) dM_spoilt_10 (by decide) (fun _ => ?_) (fun c => False.elim (c rfl))
  refine a_sipush (v := -1000) dM_spoilt_21 (by decide) ?_
  exact a_iret dM_spoilt_24 rfl ⟨rfl, (KP.up KP.refl (by omega)), (KF.refl hR)⟩
theorem q_M_spoilt1 {S : Nat × (Nat → Int32)} {d n : Nat} {I : mI} {J : mJ} {R : mR} (hn : 122 ≤ n) (hR : m_fin R) {ko nh nl : Nat} (hk : ko < 2) (h1 : f_in (nI ko) 0 (I 100 0 - 1) = 1) (hh : oR I ko 0 = nI nh) (hnh : nh ≤ 6) (hl : oR I ko 1 = nI nl) (hnl : nl ≤ 10) (hW : WFk I ko) (hH : WFh (fun l => oR I ko (9 + l)) nl) {y : Int32} {u : Int32} (hb : f_in y 0 (nI nh - 1) = 0)  : AW S (d + 9) YM_spoilt n n (qV I R (.int (-1000))) 0 [(0, .ref 95), (1, .int (nI ko)), (2, .int y), (3, .int u)] [] I J R n := by
  refine a_aload_n 0 dM_spoilt_0 rfl rfl ?_
  refine a_iconstN (a := 0) dM_spoilt_1 (by decide) ?_
  refine a_puti dM_spoilt_2 fl12_90 rfl ly_95 (by omega) ?_
  refine a_aload_n 0 dM_spoilt_5 rfl rfl ?_
  refine a_iload_n 1 dM_spoilt_6 rfl rfl ?_
  refine a_callV (Q' := m_res (some (.int 1)) (hdI (cdI I) ko) J R) (as := [.int (nI ko)]) (st := []) dM_spoilt_7 ml12_277 rfl (Nat.le_of_ble_eq_true rfl) ly_95 rfl rfl (by decide) (by omega) (Nat.le_of_ble_eq_true rfl) rfl (Nat.le_refl _) (Nat.le_refl _) (c_M_hand (I := cdI I) hn hR (by omega) h1) (m_go ?_)
  show AW _ _ _ _ _ _ _ _ [.int 1] _ _ _ _
  refine a_if_eq (tgt := 21) dM_spoilt_10 (by decide) (fun c => False.elim (absurd c (by decide))) (fun _ => ?_)
  refine a_aload_n 0 dM_spoilt_13 rfl rfl ?_
  refine a_iload_n 2 dM_spoilt_14 rfl rfl ?_
  refine a_callV (Q' := m_res (some (.int (f_in y 0 (nI nh - 1)))) (hdI (cdI I) ko) J R) (as := [.int y]) (st := []) dM_spoilt_15 ml12_322 rfl (Nat.le_of_ble_eq_true rfl) ly_95 rfl rfl (by decide) (by omega) (Nat.le_of_ble_eq_true rfl) rfl (Nat.le_refl _) (Nat.le_refl _) (by have h := c_M_isHouse (S := S) (d := d + 7) (n := n) (J := J) (R := R) (I := (hdI (cdI I) ko)) (h := y) hn; rw [hc24 hh] at h; exact h) (m_go ?_)
  show AW _ _ _ _ _ _ _ _ [.int (f_in y 0 (nI nh - 1))] _ _ _ _
  refine a_if_ne (tgt := 25) dM_spoilt_18 (by decide) (fun c18 => ?_) (fun c18 => ?_)
  · exfalso
    exact c18 hb
  · refine a_sipush (v := -1000) dM_spoilt_21 (by decide) ?_
    exact a_iret dM_spoilt_24 rfl ⟨rfl, hcP, (KF.refl hR)⟩
theorem q_M_spoilt {S : Nat × (Nat → Int32)} {d n : Nat} {I : mI} {J : mJ} {R : mR} (hn : 122 ≤ n) (hR : m_fin R) {ko nh nl : Nat} (hk : ko < 2) (h1 : f_in (nI ko) 0 (I 100 0 - 1) = 1) (hh : oR I ko 0 = nI nh) (hnh : nh ≤ 6) (hl : oR I ko 1 = nI nl) (hnl : nl ≤ 10) (hW : WFk I ko) (hH : WFh (fun l => oR I ko (9 + l)) nl) {h : Nat} (hh6 : h < nh) {u : Int32}  : AW S (d + 9) YM_spoilt n n (qV I R (.int (if u = 0 then baR (hdI (cdI I) ko) ko nl h ((hdI (cdI I) ko) 110) - (bhR (hdI (cdI I) ko) ko (oR (hdI (cdI I) ko) ko (3 + h)) (ltsN ((hdI (cdI I) ko) 106) (nI h) nl) nl).1 else (bhR (hdI (cdI I) ko) ko (oR (hdI (cdI I) ko) ko (3 + h)) (ltsN ((hdI (cdI I) ko) 106) (nI h) nl) nl).2.2))) 0 [(0, .ref 95), (1, .int (nI ko)), (2, .int (nI h)), (3, .int u)] [] I J R n := by
  refine a_aload_n 0 dM_spoilt_0 rfl rfl ?_
  refine a_iconstN (a := 0) dM_spoilt_1 (by decide) ?_
  refine a_puti dM_spoilt_2 fl12_90 rfl ly_95 (by omega) ?_
  refine a_aload_n 0 dM_spoilt_5 rfl rfl ?_
  refine a_iload_n 1 dM_spoilt_6 rfl rfl ?_
  refine a_callV (Q' := m_res (some (.int 1)) (hdI (cdI I) ko) J R) (as := [.int (nI ko)]) (st := []) dM_spoilt_7 ml12_277 rfl (Nat.le_of_ble_eq_true rfl) ly_95 rfl rfl (by decide) (by omega) (Nat.le_of_ble_eq_true rfl) rfl (Nat.le_refl _) (Nat.le_refl _) (c_M_hand (I := cdI I) hn hR (by omega) h1) (m_go ?_)
  show AW _ _ _ _ _ _ _ _ [.int 1] _ _ _ _
  refine a_if_eq (tgt := 21) dM_spoilt_10 (by decide) (fun c => False.elim (absurd c (by decide))) (fun _ => ?_)
  refine a_aload_n 0 dM_spoilt_13 rfl rfl ?_
  refine a_iload_n 2 dM_spoilt_14 rfl rfl ?_
  refine a_callV (Q' := m_res (some (.int 1)) (hdI (cdI I) ko) J R) (as := [.int (nI h)]) (st := []) dM_spoilt_15 ml12_322 rfl (Nat.le_of_ble_eq_true rfl) ly_95 rfl rfl (by decide) (by omega) (Nat.le_of_ble_eq_true rfl) rfl (Nat.le_refl _) (Nat.le_refl _) (by have h := c_M_isHouse (S := S) (d := d + 7) (n := n) (J := J) (R := R) (I := (hdI (cdI I) ko)) (h := (nI h)) hn; rw [hc24 hh, (f_in_c hh6 (by omega))] at h; exact h) (m_go ?_)
  show AW _ _ _ _ _ _ _ _ [.int 1] _ _ _ _
  refine a_if_ne (tgt := 25) dM_spoilt_18 (by decide) (fun _ => ?_) (fun c => False.elim (absurd c (by decide)))
  refine a_locs (lv' := [(0, .ref 95), (2, .int (nI h)), (3, .int u)]) [0, 2, 3] rfl ?_
  exact b_M_spoilt (S := S) (d := d) (n := n) (J := J) (R := R) (I := (hdI (cdI I) ko)) hn hR hd_23 (by omega) (hc24 hh) hnh (hc25 hl) hnl hW.hd hh6 (fun I' h => ⟨rfl, hcP.kr h, KF.refl hR⟩)
theorem q_M_strongest0 {S : Nat × (Nat → Int32)} {d n : Nat} {I : mI} {J : mJ} {R : mR} (hn : 122 ≤ n) (hR : m_fin R) {x : Int32} (h0 : f_in x 0 (I 100 0 - 1) = 0) {u : Int32}  : AW S (d + 10) YM_strongest n n (qV I R (.int (-1))) 0 [(0, .ref 95), (1, .int x), (2, .int u)] [] I J R n := by
  refine a_aload_n 0 dM_strongest_0 rfl rfl ?_
  refine a_iconstN (a := 0) dM_strongest_1 (by decide) ?_
  refine a_puti dM_strongest_2 fl12_90 rfl ly_95 (by omega) ?_
  refine a_aload_n 0 dM_strongest_5 rfl rfl ?_
  refine a_iload_n 1 dM_strongest_6 rfl rfl ?_
  refine a_callV (Q' := m_res (some (.int 0)) (m_up I 95 0 (nI 0)) J R) (as := [.int x]) (st := []) dM_strongest_7 ml12_277 rfl (Nat.le_of_ble_eq_true rfl) ly_95 rfl rfl (by decide) (by omega) (Nat.le_of_ble_eq_true rfl) rfl (Nat.le_refl _) (Nat.le_refl _) (c_M_hand0 (I := cdI I) hn hR h0) (m_go ?_)
  show AW _ _ _ _ _ _ _ _ [.int 0] _ _ _ _
  refine a_if_ne (tgt := 15) dM_strongest_10 (by decide) (fun c => False.elim (absurd rfl c)) (fun _ => ?_)
  refine a_iconst (v := -1) dM_strongest_13 (by decide) ?_
  exact a_iret dM_strongest_14 rfl ⟨rfl, (KP.up KP.refl (by omega)), (KF.refl hR)⟩
theorem q_M_strongest {S : Nat × (Nat → Int32)} {d n : Nat} {I : mI} {J : mJ} {R : mR} (hn : 122 ≤ n) (hR : m_fin R) {ko nh nl : Nat} (hk : ko < 2) (h1 : f_in (nI ko) 0 (I 100 0 - 1) = 1) (hh : oR I ko 0 = nI nh) (hnh : nh ≤ 6) (hl : oR I ko 1 = nI nl) (hnl : nl ≤ 10) (hW : WFk I ko) (hH : WFh (fun l => oR I ko (9 + l)) nl) {u : Int32}  : AW S (d + 10) YM_strongest n n (qV I R (.int (if u = 0 then (sgT (hdI (cdI I) ko) ko nh nl).1 else (sgT (hdI (cdI I) ko) ko nh nl).2.1))) 0 [(0, .ref 95), (1, .int (nI ko)), (2, .int u)] [] I J R n := by
  refine a_aload_n 0 dM_strongest_0 rfl rfl ?_
  refine a_iconstN (a := 0) dM_strongest_1 (by decide) ?_
  refine a_puti dM_strongest_2 fl12_90 rfl ly_95 (by omega) ?_
  refine a_aload_n 0 dM_strongest_5 rfl rfl ?_
  refine a_iload_n 1 dM_strongest_6 rfl rfl ?_
  refine a_callV (Q' := m_res (some (.int 1)) (hdI (cdI I) ko) J R) (as := [.int (nI ko)]) (st := []) dM_strongest_7 ml12_277 rfl (Nat.le_of_ble_eq_true rfl) ly_95 rfl rfl (by decide) (by omega) (Nat.le_of_ble_eq_true rfl) rfl (Nat.le_refl _) (Nat.le_refl _) (c_M_hand (I := cdI I) hn hR (by omega) h1) (m_go ?_)
  show AW _ _ _ _ _ _ _ _ [.int 1] _ _ _ _
  refine a_if_ne (tgt := 15) dM_strongest_10 (by decide) (fun _ => ?_) (fun c => False.elim (absurd c (by decide)))
  refine a_locs (lv' := [(0, .ref 95), (2, .int u)]) [0, 2] rfl ?_
  exact b_M_strongest (S := S) (d := d) (n := n) (J := J) (R := R) (I := (hdI (cdI I) ko)) hn hR hd_23 (by omega) (hc24 hh) hnh (hc25 hl) hnl hW.hd  (fun I' h => ⟨rfl, hcP.kr h, KF.refl hR⟩)
theorem q_M_swapped0 {S : Nat × (Nat → Int32)} {d n : Nat} {I : mI} {J : mJ} {R : mR} (hn : 122 ≤ n) (hR : m_fin R) {x : Int32} (h0 : f_in x 0 (I 100 0 - 1) = 0) {u : Int32}  : AW S (d + 10) YM_swapped n n (qV I R (.int (-1000))) 0 [(0, .ref 95), (1, .int x), (2, .int u)] [] I J R n := by
  refine a_aload_n 0 dM_swapped_0 rfl rfl ?_
  refine a_iconstN (a := 0) dM_swapped_1 (by decide) ?_
  refine a_puti dM_swapped_2 fl12_90 rfl ly_95 (by omega) ?_
  refine a_aload_n 0 dM_swapped_5 rfl rfl ?_
  refine a_iload_n 1 dM_swapped_6 rfl rfl ?_
  refine a_callV (Q' := m_res (some (.int 0)) (m_up I 95 0 (nI 0)) J R) (as := [.int x]) (st := []) dM_swapped_7 ml12_277 rfl (Nat.le_of_ble_eq_true rfl) ly_95 rfl rfl (by decide) (by omega) (Nat.le_of_ble_eq_true rfl) rfl (Nat.le_refl _) (Nat.le_refl _) (c_M_hand0 (I := cdI I) hn hR h0) (m_go ?_)
  show AW _ _ _ _ _ _ _ _ [.int 0] _ _ _ _
  refine a_if_ne (tgt := 17) dM_swapped_10 (by decide) (fun c => False.elim (absurd rfl c)) (fun _ => ?_)
  refine a_sipush (v := -1000) dM_swapped_13 (by decide) ?_
  exact a_iret dM_swapped_16 rfl ⟨rfl, (KP.up KP.refl (by omega)), (KF.refl hR)⟩
theorem q_M_swapped {S : Nat × (Nat → Int32)} {d n : Nat} {I : mI} {J : mJ} {R : mR} (hn : 122 ≤ n) (hR : m_fin R) {ko nh nl : Nat} (hk : ko < 2) (h1 : f_in (nI ko) 0 (I 100 0 - 1) = 1) (hh : oR I ko 0 = nI nh) (hnh : nh ≤ 6) (hl : oR I ko 1 = nI nl) (hnl : nl ≤ 10) (hW : WFk I ko) (hH : WFh (fun l => oR I ko (9 + l)) nl) {u : Int32}  : AW S (d + 10) YM_swapped n n (qV I R (.int (if u = 0 then (swT (hdI (cdI I) ko) ko nh nl).1 else (swT (hdI (cdI I) ko) ko nh nl).2.1))) 0 [(0, .ref 95), (1, .int (nI ko)), (2, .int u)] [] I J R n := by
  refine a_aload_n 0 dM_swapped_0 rfl rfl ?_
  refine a_iconstN (a := 0) dM_swapped_1 (by decide) ?_
  refine a_puti dM_swapped_2 fl12_90 rfl ly_95 (by omega) ?_
  refine a_aload_n 0 dM_swapped_5 rfl rfl ?_
  refine a_iload_n 1 dM_swapped_6 rfl rfl ?_
  refine a_callV (Q' := m_res (some (.int 1)) (hdI (cdI I) ko) J R) (as := [.int (nI ko)]) (st := []) dM_swapped_7 ml12_277 rfl (Nat.le_of_ble_eq_true rfl) ly_95 rfl rfl (by decide) (by omega) (Nat.le_of_ble_eq_true rfl) rfl (Nat.le_refl _) (Nat.le_refl _) (c_M_hand (I := cdI I) hn hR (by omega) h1) (m_go ?_)
  show AW _ _ _ _ _ _ _ _ [.int 1] _ _ _ _
  refine a_if_ne (tgt := 17) dM_swapped_10 (by decide) (fun _ => ?_) (fun c => False.elim (absurd c (by decide)))
  refine a_locs (lv' := [(0, .ref 95), (2, .int u)]) [0, 2] rfl ?_
  exact b_M_swapped (S := S) (d := d) (n := n) (J := J) (R := R) (I := (hdI (cdI I) ko)) hn hR hd_23 (by omega) (hc24 hh) hnh (hc25 hl) hnl hW.hd  (fun I' h => ⟨rfl, hcP.kr h, KF.refl hR⟩)
theorem q_M_sorters0 {S : Nat × (Nat → Int32)} {d n : Nat} {I : mI} {J : mJ} {R : mR} (hn : 122 ≤ n) (hR : m_fin R) {x : Int32} (h0 : f_in x 0 (I 100 0 - 1) = 0) {u : Int32}  : AW S (d + 4) YM_sorters n n (qV I R (.int (-1000))) 0 [(0, .ref 95), (1, .int x), (2, .int u)] [] I J R n := by
  refine a_aload_n 0 dM_sorters_0 rfl rfl ?_
  refine a_iconstN (a := 0) dM_sorters_1 (by decide) ?_
  refine a_puti dM_sorters_2 fl12_90 rfl ly_95 (by omega) ?_
  refine a_aload_n 0 dM_sorters_5 rfl rfl ?_
  refine a_iload_n 1 dM_sorters_6 rfl rfl ?_
  refine a_callV (Q' := m_res (some (.int 0)) (m_up I 95 0 (nI 0)) J R) (as := [.int x]) (st := []) dM_sorters_7 ml12_277 rfl (Nat.le_of_ble_eq_true rfl) ly_95 rfl rfl (by decide) (by omega) (Nat.le_of_ble_eq_true rfl) rfl (Nat.le_refl _) (Nat.le_refl _) (c_M_hand0 (I := cdI I) hn hR h0) (m_go ?_)
  show AW _ _ _ _ _ _ _ _ [.int 0] _ _ _ _
  refine a_if_ne (tgt := 17) dM_sorters_10 (by decide) (fun c => False.elim (absurd rfl c)) (fun _ => ?_)
  refine a_sipush (v := -1000) dM_sorters_13 (by decide) ?_
  exact a_iret dM_sorters_16 rfl ⟨rfl, (KP.up KP.refl (by omega)), (KF.refl hR)⟩
theorem q_M_sorters {S : Nat × (Nat → Int32)} {d n : Nat} {I : mI} {J : mJ} {R : mR} (hn : 122 ≤ n) (hR : m_fin R) {ko nh nl : Nat} (hk : ko < 2) (h1 : f_in (nI ko) 0 (I 100 0 - 1) = 1) (hh : oR I ko 0 = nI nh) (hnh : nh ≤ 6) (hl : oR I ko 1 = nI nl) (hnl : nl ≤ 10) (hW : WFk I ko) (hH : WFh (fun l => oR I ko (9 + l)) nl) {u : Int32}  : AW S (d + 4) YM_sorters n n (qV I R (.int (soR (hdI (cdI I) ko) ko nl u))) 0 [(0, .ref 95), (1, .int (nI ko)), (2, .int u)] [] I J R n := by
  refine a_aload_n 0 dM_sorters_0 rfl rfl ?_
  refine a_iconstN (a := 0) dM_sorters_1 (by decide) ?_
  refine a_puti dM_sorters_2 fl12_90 rfl ly_95 (by omega) ?_
  refine a_aload_n 0 dM_sorters_5 rfl rfl ?_
  refine a_iload_n 1 dM_sorters_6 rfl rfl ?_
  refine a_callV (Q' := m_res (some (.int 1)) (hdI (cdI I) ko) J R) (as := [.int (nI ko)]) (st := []) dM_sorters_7 ml12_277 rfl (Nat.le_of_ble_eq_true rfl) ly_95 rfl rfl (by decide) (by omega) (Nat.le_of_ble_eq_true rfl) rfl (Nat.le_refl _) (Nat.le_refl _) (c_M_hand (I := cdI I) hn hR (by omega) h1) (m_go ?_)
  show AW _ _ _ _ _ _ _ _ [.int 1] _ _ _ _
  refine a_if_ne (tgt := 17) dM_sorters_10 (by decide) (fun _ => ?_) (fun c => False.elim (absurd c (by decide)))
  refine a_locs (lv' := [(0, .ref 95), (2, .int u)]) [0, 2] rfl ?_
  exact b_M_sorters (S := S) (d := d) (n := n) (J := J) (R := R) (I := (hdI (cdI I) ko)) hn hR hd_23 (by omega) (hc24 hh) hnh (hc25 hl) hnl hW.hd  (fun B => ⟨rfl, (KP.row hcP (by omega)), KF.refl hR⟩)
theorem q_M_rack0 {S : Nat × (Nat → Int32)} {d n : Nat} {I : mI} {J : mJ} {R : mR} (hn : 122 ≤ n) (hR : m_fin R) {x : Int32} (h0 : f_in x 0 (I 100 0 - 1) = 0) {y : Int32} {z : Int32}  : AW S (d + 4) YM_rack n n (qV I R (.int (-1))) 0 [(0, .ref 95), (1, .int x), (2, .int y), (3, .int z)] [] I J R n := by
  refine a_aload_n 0 dM_rack_0 rfl rfl ?_
  refine a_iconstN (a := 0) dM_rack_1 (by decide) ?_
  refine a_puti dM_rack_2 fl12_90 rfl ly_95 (by omega) ?_
  refine a_aload_n 0 dM_rack_5 rfl rfl ?_
  refine a_iload_n 1 dM_rack_6 rfl rfl ?_
  refine a_callV (Q' := m_res (some (.int 0)) (m_up I 95 0 (nI 0)) J R) (as := [.int x]) (st := []) dM_rack_7 ml12_277 rfl (Nat.le_of_ble_eq_true rfl) ly_95 rfl rfl (by decide) (by omega) (Nat.le_of_ble_eq_true rfl) rfl (Nat.le_refl _) (Nat.le_refl _) (c_M_hand0 (I := cdI I) hn hR h0) (m_go ?_)
  show AW _ _ _ _ _ _ _ _ [.int 0] _ _ _ _
  refine a_if_eq (tgt := 45) dM_rack_10 (by decide) (fun _ => ?_) (fun c => False.elim (c rfl))
  refine a_iconst (v := -1) dM_rack_45 (by decide) ?_
  exact a_iret dM_rack_46 rfl ⟨rfl, (KP.up KP.refl (by omega)), (KF.refl hR)⟩
theorem q_M_rack1 {S : Nat × (Nat → Int32)} {d n : Nat} {I : mI} {J : mJ} {R : mR} (hn : 122 ≤ n) (hR : m_fin R) {ko nh nl : Nat} (hk : ko < 2) (h1 : f_in (nI ko) 0 (I 100 0 - 1) = 1) (hh : oR I ko 0 = nI nh) (hnh : nh ≤ 6) (hl : oR I ko 1 = nI nl) (hnl : nl ≤ 10) (hW : WFk I ko) (hH : WFh (fun l => oR I ko (9 + l)) nl) {y : Int32} {z : Int32} (hb : f_in y 0 (nI nl - 1) = 0 ∨ f_in z 0 (nI 999) = 0)  : AW S (d + 4) YM_rack n n (qV I R (.int (-1))) 0 [(0, .ref 95), (1, .int (nI ko)), (2, .int y), (3, .int z)] [] I J R n := by
  refine a_aload_n 0 dM_rack_0 rfl rfl ?_
  refine a_iconstN (a := 0) dM_rack_1 (by decide) ?_
  refine a_puti dM_rack_2 fl12_90 rfl ly_95 (by omega) ?_
  refine a_aload_n 0 dM_rack_5 rfl rfl ?_
  refine a_iload_n 1 dM_rack_6 rfl rfl ?_
  refine a_callV (Q' := m_res (some (.int 1)) (hdI (cdI I) ko) J R) (as := [.int (nI ko)]) (st := []) dM_rack_7 ml12_277 rfl (Nat.le_of_ble_eq_true rfl) ly_95 rfl rfl (by decide) (by omega) (Nat.le_of_ble_eq_true rfl) rfl (Nat.le_refl _) (Nat.le_refl _) (c_M_hand (I := cdI I) hn hR (by omega) h1) (m_go ?_)
  show AW _ _ _ _ _ _ _ _ [.int 1] _ _ _ _
  refine a_if_eq (tgt := 45) dM_rack_10 (by decide) (fun c => False.elim (absurd c (by decide))) (fun _ => ?_)
  refine a_aload_n 0 dM_rack_13 rfl rfl ?_
  refine a_iload_n 2 dM_rack_14 rfl rfl ?_
  refine a_callV (Q' := m_res (some (.int (f_in y 0 (nI nl - 1)))) (hdI (cdI I) ko) J R) (as := [.int y]) (st := []) dM_rack_15 ml12_280 rfl (Nat.le_of_ble_eq_true rfl) ly_95 rfl rfl (by decide) (by omega) (Nat.le_of_ble_eq_true rfl) rfl (Nat.le_refl _) (Nat.le_refl _) (by have h := c_M_isLetter (S := S) (d := d + 2) (n := n) (J := J) (R := R) (I := (hdI (cdI I) ko)) (h := y) hn; rw [hc25 hl] at h; exact h) (m_go ?_)
  show AW _ _ _ _ _ _ _ _ [.int (f_in y 0 (nI nl - 1))] _ _ _ _
  refine a_if_eq (tgt := 45) dM_rack_18 (by decide) (fun c18 => ?_) (fun c18 => ?_)
  · refine a_iconst (v := -1) dM_rack_45 (by decide) ?_
    exact a_iret dM_rack_46 rfl ⟨rfl, hcP, (KF.refl hR)⟩
  · refine a_iload_n 3 dM_rack_21 rfl rfl ?_
    refine a_iconstN (a := 0) dM_rack_22 (by decide) ?_
    refine a_sipushN (a := 999) dM_rack_23 (by decide) ?_
    refine a_callS (Q' := m_res (some (.int (f_in z (nI 0) (nI 999)))) (hdI (cdI I) ko) J R) (as := [.int z, .int (nI 0), .int (nI 999)]) (st := []) dM_rack_26 ml12_102 rfl (Nat.le_of_ble_eq_true rfl) (Nat.le_of_ble_eq_true rfl) rfl (Nat.le_refl _) (Nat.le_refl _) c_M_in (m_go ?_)
    show AW _ _ _ _ _ _ _ _ [.int (f_in z (nI 0) (nI 999))] _ _ _ _
    refine a_if_eq (tgt := 45) dM_rack_29 (by decide) (fun c29 => ?_) (fun c29 => ?_)
    · refine a_iconst (v := -1) dM_rack_45 (by decide) ?_
      exact a_iret dM_rack_46 rfl ⟨rfl, hcP, (KF.refl hR)⟩
    · exfalso
      rcases hb with hb | hb
      · exact c18 hb
      · exact c29 hb
theorem q_M_rack {S : Nat × (Nat → Int32)} {d n : Nat} {I : mI} {J : mJ} {R : mR} (hn : 122 ≤ n) (hR : m_fin R) {ko nh nl : Nat} (hk : ko < 2) (h1 : f_in (nI ko) 0 (I 100 0 - 1) = 1) (hh : oR I ko 0 = nI nh) (hnh : nh ≤ 6) (hl : oR I ko 1 = nI nl) (hnl : nl ≤ 10) (hW : WFk I ko) (hH : WFh (fun l => oR I ko (9 + l)) nl) {l N : Nat} (hln : l < nl) (hN : N ≤ 999)  : AW S (d + 4) YM_rack n n (qV I R (.int (rkO (rsN (hdI (cdI I) ko) ko nl (nI 0) (rs0 (hdI (cdI I) ko) ko nl) N) (nI l)))) 0 [(0, .ref 95), (1, .int (nI ko)), (2, .int (nI l)), (3, .int (nI N))] [] I J R n := by
  refine a_aload_n 0 dM_rack_0 rfl rfl ?_
  refine a_iconstN (a := 0) dM_rack_1 (by decide) ?_
  refine a_puti dM_rack_2 fl12_90 rfl ly_95 (by omega) ?_
  refine a_aload_n 0 dM_rack_5 rfl rfl ?_
  refine a_iload_n 1 dM_rack_6 rfl rfl ?_
  refine a_callV (Q' := m_res (some (.int 1)) (hdI (cdI I) ko) J R) (as := [.int (nI ko)]) (st := []) dM_rack_7 ml12_277 rfl (Nat.le_of_ble_eq_true rfl) ly_95 rfl rfl (by decide) (by omega) (Nat.le_of_ble_eq_true rfl) rfl (Nat.le_refl _) (Nat.le_refl _) (c_M_hand (I := cdI I) hn hR (by omega) h1) (m_go ?_)
  show AW _ _ _ _ _ _ _ _ [.int 1] _ _ _ _
  refine a_if_eq (tgt := 45) dM_rack_10 (by decide) (fun c => False.elim (absurd c (by decide))) (fun _ => ?_)
  refine a_aload_n 0 dM_rack_13 rfl rfl ?_
  refine a_iload_n 2 dM_rack_14 rfl rfl ?_
  refine a_callV (Q' := m_res (some (.int 1)) (hdI (cdI I) ko) J R) (as := [.int (nI l)]) (st := []) dM_rack_15 ml12_280 rfl (Nat.le_of_ble_eq_true rfl) ly_95 rfl rfl (by decide) (by omega) (Nat.le_of_ble_eq_true rfl) rfl (Nat.le_refl _) (Nat.le_refl _) (by have h := c_M_isLetter (S := S) (d := d + 2) (n := n) (J := J) (R := R) (I := (hdI (cdI I) ko)) (h := (nI l)) hn; rw [hc25 hl, (f_in_c hln (by omega))] at h; exact h) (m_go ?_)
  show AW _ _ _ _ _ _ _ _ [.int 1] _ _ _ _
  refine a_if_eq (tgt := 45) dM_rack_18 (by decide) (fun c => False.elim (absurd c (by decide))) (fun _ => ?_)
  refine a_iload_n 3 dM_rack_21 rfl rfl ?_
  refine a_iconstN (a := 0) dM_rack_22 (by decide) ?_
  refine a_sipushN (a := 999) dM_rack_23 (by decide) ?_
  refine a_callS (Q' := m_res (some (.int 1)) (hdI (cdI I) ko) J R) (as := [.int (nI N), .int (nI 0), .int (nI 999)]) (st := []) dM_rack_26 ml12_102 rfl (Nat.le_of_ble_eq_true rfl) (Nat.le_of_ble_eq_true rfl) rfl (Nat.le_refl _) (Nat.le_refl _) (c_M_inE (f_in_n (lo := 0) (by omega) hN (by omega))) (m_go ?_)
  show AW _ _ _ _ _ _ _ _ [.int 1] _ _ _ _
  refine a_if_eq (tgt := 45) dM_rack_29 (by decide) (fun c => False.elim (absurd c (by decide))) (fun _ => ?_)
  refine a_locs (lv' := [(0, .ref 95), (2, .int (nI l)), (3, .int (nI N))]) [0, 2, 3] rfl ?_
  exact b_M_rack (S := S) (d := d) (n := n) (J := J) (R := R) (I := (hdI (cdI I) ko)) hn hR hd_23 (by omega) (hc24 hh) hnh (hc25 hl) hnl hW.hd (by omega) ⟨rfl, hcP, KF.refl hR⟩
theorem q_M_settled0 {S : Nat × (Nat → Int32)} {d n : Nat} {I : mI} {J : mJ} {R : mR} (hn : 122 ≤ n) (hR : m_fin R) {x : Int32} (h0 : f_in x 0 (I 100 0 - 1) = 0) {y : Int32}  : AW S (d + 5) YM_settled n n (qV I R (.int (-2))) 0 [(0, .ref 95), (1, .int x), (2, .int y)] [] I J R n := by
  refine a_aload_n 0 dM_settled_0 rfl rfl ?_
  refine a_iconstN (a := 0) dM_settled_1 (by decide) ?_
  refine a_puti dM_settled_2 fl12_90 rfl ly_95 (by omega) ?_
  refine a_aload_n 0 dM_settled_5 rfl rfl ?_
  refine a_iload_n 1 dM_settled_6 rfl rfl ?_
  refine a_callV (Q' := m_res (some (.int 0)) (m_up I 95 0 (nI 0)) J R) (as := [.int x]) (st := []) dM_settled_7 ml12_277 rfl (Nat.le_of_ble_eq_true rfl) ly_95 rfl rfl (by decide) (by omega) (Nat.le_of_ble_eq_true rfl) rfl (Nat.le_refl _) (Nat.le_refl _) (c_M_hand0 (I := cdI I) hn hR h0) (m_go ?_)
  show AW _ _ _ _ _ _ _ _ [.int 0] _ _ _ _
  refine a_if_eq (tgt := 22) dM_settled_10 (by decide) (fun _ => ?_) (fun c => False.elim (c rfl))
  refine a_bipush (v := -2) dM_settled_22 (by decide) ?_
  exact a_iret dM_settled_24 rfl ⟨rfl, (KP.up KP.refl (by omega)), (KF.refl hR)⟩
theorem q_M_settled1 {S : Nat × (Nat → Int32)} {d n : Nat} {I : mI} {J : mJ} {R : mR} (hn : 122 ≤ n) (hR : m_fin R) {ko nh nl : Nat} (hk : ko < 2) (h1 : f_in (nI ko) 0 (I 100 0 - 1) = 1) (hh : oR I ko 0 = nI nh) (hnh : nh ≤ 6) (hl : oR I ko 1 = nI nl) (hnl : nl ≤ 10) (hW : WFk I ko) (hH : WFh (fun l => oR I ko (9 + l)) nl) {y : Int32} (hb : f_in y 0 (nI 2) = 0)  : AW S (d + 5) YM_settled n n (qV I R (.int (-2))) 0 [(0, .ref 95), (1, .int (nI ko)), (2, .int y)] [] I J R n := by
  refine a_aload_n 0 dM_settled_0 rfl rfl ?_
  refine a_iconstN (a := 0) dM_settled_1 (by decide) ?_
  refine a_puti dM_settled_2 fl12_90 rfl ly_95 (by omega) ?_
  refine a_aload_n 0 dM_settled_5 rfl rfl ?_
  refine a_iload_n 1 dM_settled_6 rfl rfl ?_
  refine a_callV (Q' := m_res (some (.int 1)) (hdI (cdI I) ko) J R) (as := [.int (nI ko)]) (st := []) dM_settled_7 ml12_277 rfl (Nat.le_of_ble_eq_true rfl) ly_95 rfl rfl (by decide) (by omega) (Nat.le_of_ble_eq_true rfl) rfl (Nat.le_refl _) (Nat.le_refl _) (c_M_hand (I := cdI I) hn hR (by omega) h1) (m_go ?_)
  show AW _ _ _ _ _ _ _ _ [.int 1] _ _ _ _
  refine a_if_eq (tgt := 22) dM_settled_10 (by decide) (fun c => False.elim (absurd c (by decide))) (fun _ => ?_)
  refine a_iload_n 2 dM_settled_13 rfl rfl ?_
  refine a_iconstN (a := 0) dM_settled_14 (by decide) ?_
  refine a_iconstN (a := 2) dM_settled_15 (by decide) ?_
  refine a_callS (Q' := m_res (some (.int (f_in y (nI 0) (nI 2)))) (hdI (cdI I) ko) J R) (as := [.int y, .int (nI 0), .int (nI 2)]) (st := []) dM_settled_16 ml12_102 rfl (Nat.le_of_ble_eq_true rfl) (Nat.le_of_ble_eq_true rfl) rfl (Nat.le_refl _) (Nat.le_refl _) c_M_in (m_go ?_)
  show AW _ _ _ _ _ _ _ _ [.int (f_in y (nI 0) (nI 2))] _ _ _ _
  refine a_if_ne (tgt := 25) dM_settled_19 (by decide) (fun c19 => ?_) (fun c19 => ?_)
  · exfalso
    exact c19 hb
  · refine a_bipush (v := -2) dM_settled_22 (by decide) ?_
    exact a_iret dM_settled_24 rfl ⟨rfl, hcP, (KF.refl hR)⟩
theorem q_M_settledS {S : Nat × (Nat → Int32)} {d n : Nat} {I : mI} {J : mJ} {R : mR} (hn : 122 ≤ n) (hR : m_fin R) {ko nh nl : Nat} (hk : ko < 2) (h1 : f_in (nI ko) 0 (I 100 0 - 1) = 1) (hh : oR I ko 0 = nI nh) (hnh : nh ≤ 6) (hl : oR I ko 1 = nI nl) (hnl : nl ≤ 10) (hW : WFk I ko) (hH : WFh (fun l => oR I ko (9 + l)) nl) {v : Int32} (hv : ∀ v2, seV (hdI (cdI I) ko) ko nl v2 → v2 = v)  : AW S (d + 5) YM_settled n n (qV I R (.int v)) 0 [(0, .ref 95), (1, .int (nI ko)), (2, .int (nI 0))] [] I J R n := by
  refine a_aload_n 0 dM_settled_0 rfl rfl ?_
  refine a_iconstN (a := 0) dM_settled_1 (by decide) ?_
  refine a_puti dM_settled_2 fl12_90 rfl ly_95 (by omega) ?_
  refine a_aload_n 0 dM_settled_5 rfl rfl ?_
  refine a_iload_n 1 dM_settled_6 rfl rfl ?_
  refine a_callV (Q' := m_res (some (.int 1)) (hdI (cdI I) ko) J R) (as := [.int (nI ko)]) (st := []) dM_settled_7 ml12_277 rfl (Nat.le_of_ble_eq_true rfl) ly_95 rfl rfl (by decide) (by omega) (Nat.le_of_ble_eq_true rfl) rfl (Nat.le_refl _) (Nat.le_refl _) (c_M_hand (I := cdI I) hn hR (by omega) h1) (m_go ?_)
  show AW _ _ _ _ _ _ _ _ [.int 1] _ _ _ _
  refine a_if_eq (tgt := 22) dM_settled_10 (by decide) (fun c => False.elim (absurd c (by decide))) (fun _ => ?_)
  refine a_iload_n 2 dM_settled_13 rfl rfl ?_
  refine a_iconstN (a := 0) dM_settled_14 (by decide) ?_
  refine a_iconstN (a := 2) dM_settled_15 (by decide) ?_
  refine a_callS (Q' := m_res (some (.int 1)) (hdI (cdI I) ko) J R) (as := [.int (nI 0), .int (nI 0), .int (nI 2)]) (st := []) dM_settled_16 ml12_102 rfl (Nat.le_of_ble_eq_true rfl) (Nat.le_of_ble_eq_true rfl) rfl (Nat.le_refl _) (Nat.le_refl _) (c_M_inE (by decide)) (m_go ?_)
  show AW _ _ _ _ _ _ _ _ [.int 1] _ _ _ _
  refine a_if_ne (tgt := 25) dM_settled_19 (by decide) (fun _ => ?_) (fun c => False.elim (absurd c (by decide)))
  refine a_iload_n 2 dM_settled_25 rfl rfl ?_
  refine a_if_ne (tgt := 34) dM_settled_26 (by decide) (fun c => False.elim (c rfl)) (fun _ => ?_)
  refine a_aload_n 0 dM_settled_29 rfl rfl ?_
  refine a_callV (Q' := fun v2 I2 J2 R2 => ∃ v3, v2 = some (.int v3) ∧ seV (hdI (cdI I) ko) ko nl v3 ∧ I2 = (hdI (cdI I) ko) ∧ J2 = J ∧ R2 = R) (as := []) (st := []) dM_settled_30 ml12_411 rfl (Nat.le_of_ble_eq_true rfl) ly_95 rfl rfl (by decide) (by omega) (Nat.le_of_ble_eq_true rfl) rfl (Nat.le_refl _) (Nat.le_refl _) (b_M_settles (S := S) (d := d) (n := n) (J := J) (R := R) (I := (hdI (cdI I) ko)) hn hR hd_23 (by omega) (hc24 hh) hnh (hc25 hl) hnl hW.hd (fun v3 h3 => ⟨v3, rfl, h3, rfl, rfl, rfl⟩)) ?_
  intro v2 I2 J2 R2 ⟨v3, e1, h3, e2, e3, e4⟩
  subst e1
  rw [e2, e3, e4, hv v3 h3]
  show AW _ _ _ _ _ _ _ _ [.int v] _ _ _ _
  exact a_iret dM_settled_33 rfl ⟨rfl, hcP, (KF.refl hR)⟩
theorem q_M_settledP {S : Nat × (Nat → Int32)} {d n : Nat} {I : mI} {J : mJ} {R : mR} (hn : 122 ≤ n) (hR : m_fin R) {ko nh nl : Nat} (hk : ko < 2) (h1 : f_in (nI ko) 0 (I 100 0 - 1) = 1) (hh : oR I ko 0 = nI nh) (hnh : nh ≤ 6) (hl : oR I ko 1 = nI nl) (hnl : nl ≤ 10) (hW : WFk I ko) (hH : WFh (fun l => oR I ko (9 + l)) nl) {x : Int32} (hx0 : ¬ x = 0) (hx : f_in x 0 (nI 2) = 1) {P : Nat} (hP : 0 < P) (hr : ptN (hdI (cdI I) ko) ko nl (rsN (hdI (cdI I) ko) ko nl (nI 0) (rs0 (hdI (cdI I) ko) ko nl) 20) P = (rsN (hdI (cdI I) ko) ko nl (nI 0) (rs0 (hdI (cdI I) ko) ko nl) 20)) (hn0 : ∀ j, 0 < j → j < P → ¬ ptN (hdI (cdI I) ko) ko nl (rsN (hdI (cdI I) ko) ko nl (nI 0) (rs0 (hdI (cdI I) ko) ko nl) 20) j = (rsN (hdI (cdI I) ko) ko nl (nI 0) (rs0 (hdI (cdI I) ko) ko nl) 20))  : AW S (d + 5) YM_settled n n (qV I R (.int (if x = nI 1 then nI P else peN (hdI (cdI I) ko) ko nl (rsN (hdI (cdI I) ko) ko nl (nI 0) (rs0 (hdI (cdI I) ko) ko nl) 20) (nI 0) (P - 1)))) 0 [(0, .ref 95), (1, .int (nI ko)), (2, .int x)] [] I J R n := by
  refine a_aload_n 0 dM_settled_0 rfl rfl ?_
  refine a_iconstN (a := 0) dM_settled_1 (by decide) ?_
  refine a_puti dM_settled_2 fl12_90 rfl ly_95 (by omega) ?_
  refine a_aload_n 0 dM_settled_5 rfl rfl ?_
  refine a_iload_n 1 dM_settled_6 rfl rfl ?_
  refine a_callV (Q' := m_res (some (.int 1)) (hdI (cdI I) ko) J R) (as := [.int (nI ko)]) (st := []) dM_settled_7 ml12_277 rfl (Nat.le_of_ble_eq_true rfl) ly_95 rfl rfl (by decide) (by omega) (Nat.le_of_ble_eq_true rfl) rfl (Nat.le_refl _) (Nat.le_refl _) (c_M_hand (I := cdI I) hn hR (by omega) h1) (m_go ?_)
  show AW _ _ _ _ _ _ _ _ [.int 1] _ _ _ _
  refine a_if_eq (tgt := 22) dM_settled_10 (by decide) (fun c => False.elim (absurd c (by decide))) (fun _ => ?_)
  refine a_iload_n 2 dM_settled_13 rfl rfl ?_
  refine a_iconstN (a := 0) dM_settled_14 (by decide) ?_
  refine a_iconstN (a := 2) dM_settled_15 (by decide) ?_
  refine a_callS (Q' := m_res (some (.int 1)) (hdI (cdI I) ko) J R) (as := [.int x, .int (nI 0), .int (nI 2)]) (st := []) dM_settled_16 ml12_102 rfl (Nat.le_of_ble_eq_true rfl) (Nat.le_of_ble_eq_true rfl) rfl (Nat.le_refl _) (Nat.le_refl _) (c_M_inE hx) (m_go ?_)
  show AW _ _ _ _ _ _ _ _ [.int 1] _ _ _ _
  refine a_if_ne (tgt := 25) dM_settled_19 (by decide) (fun _ => ?_) (fun c => False.elim (absurd c (by decide)))
  refine a_iload_n 2 dM_settled_25 rfl rfl ?_
  refine a_if_ne (tgt := 34) dM_settled_26 (by decide) (fun _ => ?_) (fun c => False.elim (hx0 c))
  refine a_locs (lv' := [(0, .ref 95), (2, .int x)]) [0, 2] rfl ?_
  exact b_M_settled (S := S) (d := d) (n := n) (J := J) (R := R) (I := (hdI (cdI I) ko)) hn hR hd_23 (by omega) (hc24 hh) hnh (hc25 hl) hnl hW.hd hP hr hn0 (fun b => ⟨rfl, (KP.row hcP (by omega)), KF.refl hR⟩)
theorem q_M_after0w {S : Nat × (Nat → Int32)} {d n : Nat} {I : mI} {J : mJ} {R : mR} (hn : 122 ≤ n) (hR : m_fin R) {x y z : Int32} (h2 : f_in y 0 (I 100 1 - 1) = 0)  : AW S (d + 8) YM_after n n (qV I R (.int (-1000))) 0 [(0, .ref 95), (1, .int x), (2, .int y), (3, .int z)] [] I J R n := by
  refine a_aload_n 0 dM_after_0 rfl rfl ?_
  refine a_iconstN (a := 0) dM_after_1 (by decide) ?_
  refine a_puti dM_after_2 fl12_90 rfl ly_95 (by omega) ?_
  refine a_aload_n 0 dM_after_5 rfl rfl ?_
  refine a_iload_n 1 dM_after_6 rfl rfl ?_
  refine a_iload_n 2 dM_after_7 rfl rfl ?_
  refine a_callV (Q' := m_res (some (.int 0)) (m_up (m_up I 95 0 0) 95 31 y) J R) (as := [.int x, .int y]) (st := []) dM_after_8 ml12_337 rfl (Nat.le_of_ble_eq_true rfl) ly_95 rfl rfl (by decide) (by omega) (Nat.le_of_ble_eq_true rfl) rfl (Nat.le_refl _) (Nat.le_refl _) (c_M_layAllw (I := cdI I) hn hR h2) (m_go ?_)
  show AW _ _ _ _ _ _ _ _ [.int 0] _ _ _ _
  refine a_if_eq (tgt := 23) dM_after_11 (by decide) (fun _ => ?_) (fun c => False.elim (c rfl))
  refine a_sipush (v := -1000) dM_after_23 (by decide) ?_
  exact a_iret dM_after_26 rfl ⟨rfl, (KP.up (KP.up KP.refl (by omega)) (by omega)), (KF.refl hR)⟩
theorem q_M_after0o {S : Nat × (Nat → Int32)} {d n : Nat} {I : mI} {J : mJ} {R : mR} (hn : 122 ≤ n) (hR : m_fin R) {x : Int32} (h0 : f_in x 0 (I 100 0 - 1) = 0) {y z : Int32} (h2 : ¬ f_in y 0 (I 100 1 - 1) = 0)  : AW S (d + 8) YM_after n n (qV I R (.int (-1000))) 0 [(0, .ref 95), (1, .int x), (2, .int y), (3, .int z)] [] I J R n := by
  refine a_aload_n 0 dM_after_0 rfl rfl ?_
  refine a_iconstN (a := 0) dM_after_1 (by decide) ?_
  refine a_puti dM_after_2 fl12_90 rfl ly_95 (by omega) ?_
  refine a_aload_n 0 dM_after_5 rfl rfl ?_
  refine a_iload_n 1 dM_after_6 rfl rfl ?_
  refine a_iload_n 2 dM_after_7 rfl rfl ?_
  refine a_callV (Q' := m_res (some (.int 0)) (m_up (m_up I 95 0 0) 95 31 y) J R) (as := [.int x, .int y]) (st := []) dM_after_8 ml12_337 rfl (Nat.le_of_ble_eq_true rfl) ly_95 rfl rfl (by decide) (by omega) (Nat.le_of_ble_eq_true rfl) rfl (Nat.le_refl _) (Nat.le_refl _) (c_M_layAllo (I := cdI I) hn hR h0 h2) (m_go ?_)
  show AW _ _ _ _ _ _ _ _ [.int 0] _ _ _ _
  refine a_if_eq (tgt := 23) dM_after_11 (by decide) (fun _ => ?_) (fun c => False.elim (c rfl))
  refine a_sipush (v := -1000) dM_after_23 (by decide) ?_
  exact a_iret dM_after_26 rfl ⟨rfl, (KP.up (KP.up KP.refl (by omega)) (by omega)), (KF.refl hR)⟩
theorem q_M_after1 {S : Nat × (Nat → Int32)} {d n : Nat} {I : mI} {J : mJ} {R : mR} (hn : 122 ≤ n) (hR : m_fin R) {ko nh nl : Nat} (hk : ko < 2) (h1 : f_in (nI ko) 0 (I 100 0 - 1) = 1) (hh : oR I ko 0 = nI nh) (hnh : nh ≤ 6) (hl : oR I ko 1 = nI nl) (hnl : nl ≤ 10) (hW : WFk I ko) (hH : WFh (fun l => oR I ko (9 + l)) nl) {kw c : Nat} (hw2 : kw < 2) (hw1 : f_in (nI kw) 0 (I 100 1 - 1) = 1) (hcc : I 102 (121 * kw) = nI c) (hc : c ≤ 40) (hww : WFw I kw c) {z : Int32} (hb : f_in z 0 (nI 3) = 0)  : AW S (d + 8) YM_after n n (qV I R (.int (-1000))) 0 [(0, .ref 95), (1, .int (nI ko)), (2, .int (nI kw)), (3, .int z)] [] I J R n := by
  refine a_aload_n 0 dM_after_0 rfl rfl ?_
  refine a_iconstN (a := 0) dM_after_1 (by decide) ?_
  refine a_puti dM_after_2 fl12_90 rfl ly_95 (by omega) ?_
  refine a_aload_n 0 dM_after_5 rfl rfl ?_
  refine a_iload_n 1 dM_after_6 rfl rfl ?_
  refine a_iload_n 2 dM_after_7 rfl rfl ?_
  refine a_callV (Q' := m_res (some (.int 1)) (laI I ko kw) J R) (as := [.int (nI ko), .int (nI kw)]) (st := []) dM_after_8 ml12_337 rfl (Nat.le_of_ble_eq_true rfl) ly_95 rfl rfl (by decide) (by omega) (Nat.le_of_ble_eq_true rfl) rfl (Nat.le_refl _) (Nat.le_refl _) (c_M_layAll (I := cdI I) hn hR hk h1 hw1) (m_go ?_)
  show AW _ _ _ _ _ _ _ _ [.int 1] _ _ _ _
  refine a_if_eq (tgt := 23) dM_after_11 (by decide) (fun c => False.elim (absurd c (by decide))) (fun _ => ?_)
  refine a_iload_n 3 dM_after_14 rfl rfl ?_
  refine a_iconstN (a := 0) dM_after_15 (by decide) ?_
  refine a_iconstN (a := 3) dM_after_16 (by decide) ?_
  refine a_callS (Q' := m_res (some (.int (f_in z (nI 0) (nI 3)))) (laI I ko kw) J R) (as := [.int z, .int (nI 0), .int (nI 3)]) (st := []) dM_after_17 ml12_102 rfl (Nat.le_of_ble_eq_true rfl) (Nat.le_of_ble_eq_true rfl) rfl (Nat.le_refl _) (Nat.le_refl _) c_M_in (m_go ?_)
  show AW _ _ _ _ _ _ _ _ [.int (f_in z (nI 0) (nI 3))] _ _ _ _
  refine a_if_ne (tgt := 27) dM_after_20 (by decide) (fun c => False.elim (absurd hb c)) (fun _ => ?_)
  refine a_sipush (v := -1000) dM_after_23 (by decide) ?_
  exact a_iret dM_after_26 rfl ⟨rfl, (KP.hd (KP.up (KP.up KP.refl (by omega)) (by omega))), (KF.refl hR)⟩
theorem q_M_after {S : Nat × (Nat → Int32)} {d n : Nat} {I : mI} {J : mJ} {R : mR} (hn : 122 ≤ n) (hR : m_fin R) {ko nh nl : Nat} (hk : ko < 2) (h1 : f_in (nI ko) 0 (I 100 0 - 1) = 1) (hh : oR I ko 0 = nI nh) (hnh : nh ≤ 6) (hl : oR I ko 1 = nI nl) (hnl : nl ≤ 10) (hW : WFk I ko) (hH : WFh (fun l => oR I ko (9 + l)) nl) {kw c : Nat} (hw2 : kw < 2) (hw1 : f_in (nI kw) 0 (I 100 1 - 1) = 1) (hcc : I 102 (121 * kw) = nI c) (hc : c ≤ 40) (hww : WFw I kw c) {z : Int32} (hz : f_in z 0 (nI 3) = 1)  : AW S (d + 8) YM_after n n (qV I R (.int (afF (afT (laI I ko kw) ko nh nl kw c).1 (afT (laI I ko kw) ko nh nl kw c).2 z))) 0 [(0, .ref 95), (1, .int (nI ko)), (2, .int (nI kw)), (3, .int z)] [] I J R n := by
  refine a_aload_n 0 dM_after_0 rfl rfl ?_
  refine a_iconstN (a := 0) dM_after_1 (by decide) ?_
  refine a_puti dM_after_2 fl12_90 rfl ly_95 (by omega) ?_
  refine a_aload_n 0 dM_after_5 rfl rfl ?_
  refine a_iload_n 1 dM_after_6 rfl rfl ?_
  refine a_iload_n 2 dM_after_7 rfl rfl ?_
  refine a_callV (Q' := m_res (some (.int 1)) (laI I ko kw) J R) (as := [.int (nI ko), .int (nI kw)]) (st := []) dM_after_8 ml12_337 rfl (Nat.le_of_ble_eq_true rfl) ly_95 rfl rfl (by decide) (by omega) (Nat.le_of_ble_eq_true rfl) rfl (Nat.le_refl _) (Nat.le_refl _) (c_M_layAll (I := cdI I) hn hR hk h1 hw1) (m_go ?_)
  show AW _ _ _ _ _ _ _ _ [.int 1] _ _ _ _
  refine a_if_eq (tgt := 23) dM_after_11 (by decide) (fun c => False.elim (absurd c (by decide))) (fun _ => ?_)
  refine a_iload_n 3 dM_after_14 rfl rfl ?_
  refine a_iconstN (a := 0) dM_after_15 (by decide) ?_
  refine a_iconstN (a := 3) dM_after_16 (by decide) ?_
  refine a_callS (Q' := m_res (some (.int 1)) (laI I ko kw) J R) (as := [.int z, .int (nI 0), .int (nI 3)]) (st := []) dM_after_17 ml12_102 rfl (Nat.le_of_ble_eq_true rfl) (Nat.le_of_ble_eq_true rfl) rfl (Nat.le_refl _) (Nat.le_refl _) (c_M_inE hz) (m_go ?_)
  show AW _ _ _ _ _ _ _ _ [.int 1] _ _ _ _
  refine a_if_ne (tgt := 27) dM_after_20 (by decide) (fun _ => ?_) (fun c => False.elim (absurd c (by decide)))
  refine a_locs (lv' := [(0, .ref 95), (3, .int z)]) [0, 3] rfl ?_
  exact b_M_after (S := S) (d := d) (n := n) (J := J) (R := R) (I := (laI I ko kw)) hn hR la_23 (by omega) (la_24.trans hh) hnh (la_25.trans hl) hnl (la_WFk hW) la_31 hw2 (la_WFh hnl hH) ((congrFun (la_101 (by decide) (by decide) (by decide) (by decide) (by decide)) _).trans hcc) hc (la_WFw hww) (f_in_l3 hz) ⟨rfl, (KP.cR (KP.hd (KP.up (KP.up KP.refl (by omega)) (by omega)))), KF.refl hR⟩
theorem q_M_drawn0 {S : Nat × (Nat → Int32)} {d n : Nat} {I : mI} {J : mJ} {R : mR} (hn : 122 ≤ n) (hR : m_fin R) {x : Int32} (h0 : f_in x 0 (I 100 0 - 1) = 0) {y : Int32} {z : Int32} {t : Int32}  : AW S (d + 8) YM_drawn n n (qV I R (.int (-1000))) 0 [(0, .ref 95), (1, .int x), (2, .int y), (3, .int z), (4, .int t)] [] I J R n := by
  refine a_aload_n 0 dM_drawn_0 rfl rfl ?_
  refine a_iconstN (a := 0) dM_drawn_1 (by decide) ?_
  refine a_puti dM_drawn_2 fl12_90 rfl ly_95 (by omega) ?_
  refine a_iload_n 3 dM_drawn_5 rfl rfl ?_
  refine a_iconstN (a := 0) dM_drawn_6 (by decide) ?_
  refine a_bipushN (a := 60) dM_drawn_7 (by decide) ?_
  refine a_callS (Q' := m_res (some (.int (f_in z (nI 0) (nI 60)))) (m_up I 95 0 (nI 0)) J R) (as := [.int z, .int (nI 0), .int (nI 60)]) (st := []) dM_drawn_9 ml12_102 rfl (Nat.le_of_ble_eq_true rfl) (Nat.le_of_ble_eq_true rfl) rfl (Nat.le_refl _) (Nat.le_refl _) c_M_in (m_go ?_)
  show AW _ _ _ _ _ _ _ _ [.int (f_in z (nI 0) (nI 60))] _ _ _ _
  refine a_if_eq (tgt := 23) dM_drawn_12 (by decide) (fun c12 => ?_) (fun c12 => ?_)
  · refine a_sipush (v := -1000) dM_drawn_23 (by decide) ?_
    exact a_iret dM_drawn_26 rfl ⟨rfl, (KP.up KP.refl (by omega)), (KF.refl hR)⟩
  · refine a_aload_n 0 dM_drawn_15 rfl rfl ?_
    refine a_iload_n 1 dM_drawn_16 rfl rfl ?_
    refine a_callV (Q' := m_res (some (.int 0)) (m_up I 95 0 (nI 0)) J R) (as := [.int x]) (st := []) dM_drawn_17 ml12_277 rfl (Nat.le_of_ble_eq_true rfl) ly_95 rfl rfl (by decide) (by omega) (Nat.le_of_ble_eq_true rfl) rfl (Nat.le_refl _) (Nat.le_refl _) (c_M_hand0 (I := cdI I) hn hR h0) (m_go ?_)
    show AW _ _ _ _ _ _ _ _ [.int 0] _ _ _ _
    refine a_if_ne (tgt := 27) dM_drawn_20 (by decide) (fun c => False.elim (absurd rfl c)) (fun _ => ?_)
    refine a_sipush (v := -1000) dM_drawn_23 (by decide) ?_
    exact a_iret dM_drawn_26 rfl ⟨rfl, (KP.up KP.refl (by omega)), (KF.refl hR)⟩
theorem q_M_drawn1 {S : Nat × (Nat → Int32)} {d n : Nat} {I : mI} {J : mJ} {R : mR} (hn : 122 ≤ n) (hR : m_fin R) {ko nh nl : Nat} (hk : ko < 2) (h1 : f_in (nI ko) 0 (I 100 0 - 1) = 1) (hh : oR I ko 0 = nI nh) (hnh : nh ≤ 6) (hl : oR I ko 1 = nI nl) (hnl : nl ≤ 10) (hW : WFk I ko) (hH : WFh (fun l => oR I ko (9 + l)) nl) {y : Int32} {z : Int32} {t : Int32} (hb : f_in z 0 (nI 60) = 0)  : AW S (d + 8) YM_drawn n n (qV I R (.int (-1000))) 0 [(0, .ref 95), (1, .int (nI ko)), (2, .int y), (3, .int z), (4, .int t)] [] I J R n := by
  refine a_aload_n 0 dM_drawn_0 rfl rfl ?_
  refine a_iconstN (a := 0) dM_drawn_1 (by decide) ?_
  refine a_puti dM_drawn_2 fl12_90 rfl ly_95 (by omega) ?_
  refine a_iload_n 3 dM_drawn_5 rfl rfl ?_
  refine a_iconstN (a := 0) dM_drawn_6 (by decide) ?_
  refine a_bipushN (a := 60) dM_drawn_7 (by decide) ?_
  refine a_callS (Q' := m_res (some (.int (f_in z (nI 0) (nI 60)))) (m_up I 95 0 (nI 0)) J R) (as := [.int z, .int (nI 0), .int (nI 60)]) (st := []) dM_drawn_9 ml12_102 rfl (Nat.le_of_ble_eq_true rfl) (Nat.le_of_ble_eq_true rfl) rfl (Nat.le_refl _) (Nat.le_refl _) c_M_in (m_go ?_)
  show AW _ _ _ _ _ _ _ _ [.int (f_in z (nI 0) (nI 60))] _ _ _ _
  refine a_if_eq (tgt := 23) dM_drawn_12 (by decide) (fun c12 => ?_) (fun c12 => ?_)
  · refine a_sipush (v := -1000) dM_drawn_23 (by decide) ?_
    exact a_iret dM_drawn_26 rfl ⟨rfl, (KP.up KP.refl (by omega)), (KF.refl hR)⟩
  · refine a_aload_n 0 dM_drawn_15 rfl rfl ?_
    refine a_iload_n 1 dM_drawn_16 rfl rfl ?_
    refine a_callV (Q' := m_res (some (.int 1)) (hdI (cdI I) ko) J R) (as := [.int (nI ko)]) (st := []) dM_drawn_17 ml12_277 rfl (Nat.le_of_ble_eq_true rfl) ly_95 rfl rfl (by decide) (by omega) (Nat.le_of_ble_eq_true rfl) rfl (Nat.le_refl _) (Nat.le_refl _) (c_M_hand (I := cdI I) hn hR (by omega) h1) (m_go ?_)
    show AW _ _ _ _ _ _ _ _ [.int 1] _ _ _ _
    refine a_if_ne (tgt := 27) dM_drawn_20 (by decide) (fun _ => ?_) (fun c => False.elim (absurd c (by decide)))
    exfalso
    exact c12 hb
theorem q_M_drawn {S : Nat × (Nat → Int32)} {d n : Nat} {I : mI} {J : mJ} {R : mR} (hn : 122 ≤ n) (hR : m_fin R) {ko nh nl : Nat} (hk : ko < 2) (h1 : f_in (nI ko) 0 (I 100 0 - 1) = 1) (hh : oR I ko 0 = nI nh) (hnh : nh ≤ 6) (hl : oR I ko 1 = nI nl) (hnl : nl ≤ 10) (hW : WFk I ko) (hH : WFh (fun l => oR I ko (9 + l)) nl) (hnh1 : 1 ≤ nh) {N : Nat} (hN : N ≤ 60) {y t : Int32}  : AW S (d + 8) YM_drawn n n (qV I R (.int (osF nh (dnN nh nl (doR (hdI (cdI I) ko) ko nh nl) N (y, opS (sdI (hdI (cdI I) ko) y) ko nl)).2 t))) 0 [(0, .ref 95), (1, .int (nI ko)), (2, .int y), (3, .int (nI N)), (4, .int t)] [] I J R n := by
  refine a_aload_n 0 dM_drawn_0 rfl rfl ?_
  refine a_iconstN (a := 0) dM_drawn_1 (by decide) ?_
  refine a_puti dM_drawn_2 fl12_90 rfl ly_95 (by omega) ?_
  refine a_iload_n 3 dM_drawn_5 rfl rfl ?_
  refine a_iconstN (a := 0) dM_drawn_6 (by decide) ?_
  refine a_bipushN (a := 60) dM_drawn_7 (by decide) ?_
  refine a_callS (Q' := m_res (some (.int 1)) (m_up I 95 0 (nI 0)) J R) (as := [.int (nI N), .int (nI 0), .int (nI 60)]) (st := []) dM_drawn_9 ml12_102 rfl (Nat.le_of_ble_eq_true rfl) (Nat.le_of_ble_eq_true rfl) rfl (Nat.le_refl _) (Nat.le_refl _) (c_M_inE (f_in_n (lo := 0) (by omega) hN (by omega))) (m_go ?_)
  show AW _ _ _ _ _ _ _ _ [.int 1] _ _ _ _
  refine a_if_eq (tgt := 23) dM_drawn_12 (by decide) (fun c => False.elim (absurd c (by decide))) (fun _ => ?_)
  refine a_aload_n 0 dM_drawn_15 rfl rfl ?_
  refine a_iload_n 1 dM_drawn_16 rfl rfl ?_
  refine a_callV (Q' := m_res (some (.int 1)) (hdI (cdI I) ko) J R) (as := [.int (nI ko)]) (st := []) dM_drawn_17 ml12_277 rfl (Nat.le_of_ble_eq_true rfl) ly_95 rfl rfl (by decide) (by omega) (Nat.le_of_ble_eq_true rfl) rfl (Nat.le_refl _) (Nat.le_refl _) (c_M_hand (I := cdI I) hn hR (by omega) h1) (m_go ?_)
  show AW _ _ _ _ _ _ _ _ [.int 1] _ _ _ _
  refine a_if_ne (tgt := 27) dM_drawn_20 (by decide) (fun _ => ?_) (fun c => False.elim (absurd c (by decide)))
  refine a_aload_n 0 dM_drawn_27 rfl rfl ?_
  refine a_iload_n 2 dM_drawn_28 rfl rfl ?_
  refine a_puti dM_drawn_29 fl12_466 rfl ly_95 (by omega) ?_
  refine a_aload_n 0 dM_drawn_32 rfl rfl ?_
  refine a_callV (Q' := m_res none (crT (sdI (hdI (cdI I) ko) y) (opS (sdI (hdI (cdI I) ko) y) ko nl)) J R) (as := []) (st := []) dM_drawn_33 ml12_331 rfl (Nat.le_of_ble_eq_true rfl) ly_95 rfl rfl (by decide) (by omega) (Nat.le_of_ble_eq_true rfl) rfl (Nat.le_refl _) (Nat.le_refl _) (c_M_opens (I := (sdI (hdI (cdI I) ko) y)) hn hR (hd_23 (I := cdI I)) (by omega) (hc24 hh) hnh (hc25 hl) hnl hW.hd) (m_go ?_)
  show AW _ _ _ _ _ _ _ _ [] _ _ _ _
  refine a_iconstN (a := 0) dM_drawn_36 (by decide) ?_
  refine a_istore (lv' := [(5, .int (nI 0)), (0, .ref 95), (1, .int (nI ko)), (2, .int y), (3, .int (nI N)), (4, .int t)]) dM_drawn_37 (by decide) rfl ?_
  refine a_locs (lv' := [(5, .int (nI 0)), (0, .ref 95), (3, .int (nI N)), (4, .int t)]) [0, 1, 4, 5] rfl ?_
  exact l_M_drawn (S := S) (d := d) (n := n) (J := J) (R := R) (I := (hdI (cdI I) ko)) (sd := y) (s := opS (sdI (hdI (cdI I) ko) y) ko nl) hn hR hd_23 (by omega) (hc24 hh) hnh (hc25 hl) hnl hW.hd hnh1 (hcH hnl hH) opS_WFl hN ⟨rfl, (KP.cR (KP.up hcP (by omega))), KF.refl hR⟩ N 0 (by omega)
