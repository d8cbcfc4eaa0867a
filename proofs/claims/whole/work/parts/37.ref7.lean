/-- what a course says, by what is asked -/
def osF (nh : Nat) (s : cS) (x : Int32) : Int32 :=
  if f_in x 10 39 = 0 then (if x = 0 then s.2.2.2.1 else if x = 1 then s.2.2.2.2.1 else if x = 2 then s.2.2.2.2.2.1 else if x = 3 then s.2.2.2.2.2.2.1 else if x = 4 then smN s.1 nh else -1000)
  else if x.toNatClampNeg % 10 < nh then (if x.toNatClampNeg < 20 then s.1 (x.toNatClampNeg % 10) else if x.toNatClampNeg < 30 then s.2.1 (x.toNatClampNeg % 10) else s.2.2.1 (x.toNatClampNeg % 10)) else -1000
theorem f_in_r {x : Int32} (h : ¬ f_in x 10 39 = 0) : ∃ w, 10 ≤ w ∧ w ≤ 39 ∧ x = nI w := by
  unfold f_in at h
  split at h
  · exact absurd rfl h
  · rename_i h1
    split at h
    · exact absurd rfl h
    · rename_i h2
      have h0 : ¬ x < 0 := fun c => h1 (Int32.lt_trans c (by decide))
      obtain ⟨w, hw, rfl⟩ := nI_of h0
      refine ⟨w, ?_, ?_, rfl⟩
      · exact Nat.not_lt.mp (fun c => h1 (nI_lt (b := 10) c (by decide)))
      · exact Nat.not_lt.mp (fun c => h2 (nI_lt (a := 39) c hw))
theorem c_M_ofState0 {S : Nat × (Nat → Int32)} {d n : Nat} {I : mI} {J : mJ} {R : mR} {s : cS} {ko nh nl : Nat} (hn : 122 ≤ n) (hR : m_fin R) (ho : I 95 23 = nI ko) (hk : ko < 7) (hh : I 95 24 = nI nh) (hnh : nh ≤ 6) (hl : I 95 25 = nI nl) (hnl : nl ≤ 10) (hW : WFk I ko) {x : Int32} (hx : f_in x 10 39 = 0) : RUN S (d + 1) YM_ofState [.ref 95, .int x] (crT I s) J R n (some (.int (osF nh s x))) (crT I s) J R n := by
  show AW S _ YM_ofState n n _ 0 [(0, .ref 95), (1, .int x)] [] (crR I s.1 s.2.1 s.2.2.1 s.2.2.2.1 s.2.2.2.2.1 s.2.2.2.2.2.1 s.2.2.2.2.2.2.1 s.2.2.2.2.2.2.2.1 s.2.2.2.2.2.2.2.2) J R n
  refine a_iload_n 1 dM_ofState_0 rfl rfl ?_
  refine a_bipush (v := 10) dM_ofState_1 (by decide) ?_
  refine a_bipush (v := 39) dM_ofState_3 (by decide) ?_
  refine a_callS (Q' := m_res (some (.int (f_in x 10 39))) (crR I s.1 s.2.1 s.2.2.1 s.2.2.2.1 s.2.2.2.2.1 s.2.2.2.2.2.1 s.2.2.2.2.2.2.1 s.2.2.2.2.2.2.2.1 s.2.2.2.2.2.2.2.2) J R) (as := [.int x, .int 10, .int 39]) (st := []) dM_ofState_5 ml12_102 rfl (Nat.le_of_ble_eq_true rfl) (Nat.le_of_ble_eq_true rfl) rfl (Nat.le_refl _) (Nat.le_refl _) c_M_in (m_go ?_)
  show AW _ _ _ _ _ _ _ _ [.int (f_in x 10 39)] _ _ _ _
  refine a_if_eq (tgt := 67) dM_ofState_8 (by decide) (fun _ => ?_) (fun c => False.elim (c hx))
  refine a_iload_n 1 dM_ofState_67 rfl rfl ?_
  by_cases hs0 : x = 0
  · refine a_tab (off := 36) (tgt := 104) dM_ofState_68 hs0 (by decide) (by decide) (by decide) (by decide) ?_
    refine a_aload_n 0 dM_ofState_104 rfl rfl ?_
    refine a_geti dM_ofState_105 fl12_298 rfl ly_95 (by omega) ?_
    rw [show (crR I s.1 s.2.1 s.2.2.1 s.2.2.2.1 s.2.2.2.2.1 s.2.2.2.2.2.1 s.2.2.2.2.2.2.1 s.2.2.2.2.2.2.2.1 s.2.2.2.2.2.2.2.2) 95 32 = s.2.2.2.1 from rfl]
    exact a_iret dM_ofState_108 rfl ⟨by unfold osF; rw [if_pos hx, if_pos hs0], rfl, rfl, rfl⟩
  by_cases hs1 : x = 1
  · refine a_tab (off := 41) (tgt := 109) dM_ofState_68 hs1 (by decide) (by decide) (by decide) (by decide) ?_
    refine a_aload_n 0 dM_ofState_109 rfl rfl ?_
    refine a_geti dM_ofState_110 fl12_301 rfl ly_95 (by omega) ?_
    rw [show (crR I s.1 s.2.1 s.2.2.1 s.2.2.2.1 s.2.2.2.2.1 s.2.2.2.2.2.1 s.2.2.2.2.2.2.1 s.2.2.2.2.2.2.2.1 s.2.2.2.2.2.2.2.2) 95 33 = s.2.2.2.2.1 from rfl]
    exact a_iret dM_ofState_113 rfl ⟨by unfold osF; rw [if_pos hx, if_neg hs0, if_pos hs1], rfl, rfl, rfl⟩
  by_cases hs2 : x = 2
  · refine a_tab (off := 46) (tgt := 114) dM_ofState_68 hs2 (by decide) (by decide) (by decide) (by decide) ?_
    refine a_aload_n 0 dM_ofState_114 rfl rfl ?_
    refine a_geti dM_ofState_115 fl12_304 rfl ly_95 (by omega) ?_
    rw [show (crR I s.1 s.2.1 s.2.2.1 s.2.2.2.1 s.2.2.2.2.1 s.2.2.2.2.2.1 s.2.2.2.2.2.2.1 s.2.2.2.2.2.2.2.1 s.2.2.2.2.2.2.2.2) 95 34 = s.2.2.2.2.2.1 from rfl]
    exact a_iret dM_ofState_118 rfl ⟨by unfold osF; rw [if_pos hx, if_neg hs0, if_neg hs1, if_pos hs2], rfl, rfl, rfl⟩
  by_cases hs3 : x = 3
  · refine a_tab (off := 51) (tgt := 119) dM_ofState_68 hs3 (by decide) (by decide) (by decide) (by decide) ?_
    refine a_aload_n 0 dM_ofState_119 rfl rfl ?_
    refine a_geti dM_ofState_120 fl12_307 rfl ly_95 (by omega) ?_
    rw [show (crR I s.1 s.2.1 s.2.2.1 s.2.2.2.1 s.2.2.2.2.1 s.2.2.2.2.2.1 s.2.2.2.2.2.2.1 s.2.2.2.2.2.2.2.1 s.2.2.2.2.2.2.2.2) 95 35 = s.2.2.2.2.2.2.1 from rfl]
    exact a_iret dM_ofState_123 rfl ⟨by unfold osF; rw [if_pos hx, if_neg hs0, if_neg hs1, if_neg hs2, if_pos hs3], rfl, rfl, rfl⟩
  by_cases hs4 : x = 4
  · refine a_tab (off := 56) (tgt := 124) dM_ofState_68 hs4 (by decide) (by decide) (by decide) (by decide) ?_
    refine a_aload_n 0 dM_ofState_124 rfl rfl ?_
    refine a_callV (Q' := m_res (some (.int (smN s.1 nh))) (crR I s.1 s.2.1 s.2.2.1 s.2.2.2.1 s.2.2.2.2.1 s.2.2.2.2.2.1 s.2.2.2.2.2.2.1 s.2.2.2.2.2.2.2.1 s.2.2.2.2.2.2.2.2) J R) (as := []) (st := []) dM_ofState_125 ml12_343 rfl (Nat.le_of_ble_eq_true rfl) ly_95 rfl rfl (by decide) (by omega) (Nat.le_of_ble_eq_true rfl) rfl (Nat.le_refl _) (Nat.le_refl _) (by have h := c_M_allMoods (S := S) (d := d) (J := J) (I := (crR I s.1 s.2.1 s.2.2.1 s.2.2.2.1 s.2.2.2.2.1 s.2.2.2.2.2.1 s.2.2.2.2.2.2.1 s.2.2.2.2.2.2.2.1 s.2.2.2.2.2.2.2.2)) (nh := nh) hn hR (by rw [crR_f (by decide)]; exact hh) hnh; rw [crR_107] at h; exact h) (m_go ?_)
    show AW _ _ _ _ _ _ _ _ [.int (smN s.1 nh)] _ _ _ _
    exact a_iret dM_ofState_128 rfl ⟨by unfold osF; rw [if_pos hx, if_neg hs0, if_neg hs1, if_neg hs2, if_neg hs3, if_pos hs4], rfl, rfl, rfl⟩
  refine a_tableOut (tgt := 129) dM_ofState_68 (m_swo0_4 hs0 hs1 hs2 hs3 hs4) (by decide) ?_
  refine a_sipush (v := -1000) dM_ofState_129 (by decide) ?_
  exact a_iret dM_ofState_132 rfl ⟨by unfold osF; rw [if_pos hx, if_neg hs0, if_neg hs1, if_neg hs2, if_neg hs3, if_neg hs4], rfl, rfl, rfl⟩
theorem c_M_ofState1 {S : Nat × (Nat → Int32)} {d n : Nat} {I : mI} {J : mJ} {R : mR} {s : cS} {ko nh nl : Nat} (hn : 122 ≤ n) (hR : m_fin R) (ho : I 95 23 = nI ko) (hk : ko < 7) (hh : I 95 24 = nI nh) (hnh : nh ≤ 6) (hl : I 95 25 = nI nl) (hnl : nl ≤ 10) (hW : WFk I ko) {w : Nat} (hw1 : 10 ≤ w) (hw2 : w ≤ 39) : RUN S (d + 1) YM_ofState [.ref 95, .int (nI w)] (crT I s) J R n (some (.int (osF nh s (nI w)))) (crT I s) J R n := by
  have hx : f_in (nI w) (nI 10) (nI 39) = 1 := f_in_n hw1 hw2 (by decide)
  have hx2 : ¬ f_in (nI w) 10 39 = 0 := by show ¬ f_in (nI w) (nI 10) (nI 39) = 0; rw [hx]; decide
  show AW S _ YM_ofState n n _ 0 [(0, .ref 95), (1, .int (nI w))] [] (crR I s.1 s.2.1 s.2.2.1 s.2.2.2.1 s.2.2.2.2.1 s.2.2.2.2.2.1 s.2.2.2.2.2.2.1 s.2.2.2.2.2.2.2.1 s.2.2.2.2.2.2.2.2) J R n
  refine a_iload_n 1 dM_ofState_0 rfl rfl ?_
  refine a_bipushN (a := 10) dM_ofState_1 (by decide) ?_
  refine a_bipushN (a := 39) dM_ofState_3 (by decide) ?_
  refine a_callS (Q' := m_res (some (.int (f_in (nI w) (nI 10) (nI 39)))) (crR I s.1 s.2.1 s.2.2.1 s.2.2.2.1 s.2.2.2.2.1 s.2.2.2.2.2.1 s.2.2.2.2.2.2.1 s.2.2.2.2.2.2.2.1 s.2.2.2.2.2.2.2.2) J R) (as := [.int (nI w), .int (nI 10), .int (nI 39)]) (st := []) dM_ofState_5 ml12_102 rfl (Nat.le_of_ble_eq_true rfl) (Nat.le_of_ble_eq_true rfl) rfl (Nat.le_refl _) (Nat.le_refl _) c_M_in (m_go ?_)
  show AW _ _ _ _ _ _ _ _ [.int (f_in (nI w) (nI 10) (nI 39))] _ _ _ _
  refine a_if_eq (tgt := 67) dM_ofState_8 (by decide) (fun c => False.elim (by rw [hx] at c; exact absurd c (by decide))) (fun _ => ?_)
  refine a_iload_n 1 dM_ofState_11 rfl rfl ?_
  refine a_bipushN (a := 10) dM_ofState_12 (by decide) ?_
  refine a_iremN dM_ofState_14 (by omega) (by omega) (by omega) ?_
  refine a_istore_n (lv' := [(2, .int (nI (w % 10))), (0, .ref 95), (1, .int (nI w))]) dM_ofState_15 rfl (by decide) rfl ?_
  refine a_iload_n 0 dM_ofState_16 rfl rfl ?_
  refine a_aload_n 1 dM_ofState_17 rfl rfl ?_
  refine a_geti dM_ofState_18 fl12_259 rfl ly_95 (by omega) ?_
  rw [show (crR I s.1 s.2.1 s.2.2.1 s.2.2.2.1 s.2.2.2.2.1 s.2.2.2.2.2.1 s.2.2.2.2.2.2.1 s.2.2.2.2.2.2.2.1 s.2.2.2.2.2.2.2.2) 95 24 = (nI nh) from (by rw [crR_f (by decide)]; exact hh)]
  refine a_icmp_ltN (tgt := 30) dM_ofState_21 (by decide) (by omega) (by omega) (fun c21 => ?_) (fun c21 => ?_)
  · refine a_iload_n 2 dM_ofState_30 rfl rfl ?_
    refine a_bipushN (a := 20) dM_ofState_31 (by decide) ?_
    refine a_icmp_geN (tgt := 45) dM_ofState_33 (by decide) (by omega) (by omega) (fun c33 => ?_) (fun c33 => ?_)
    · refine a_iload_n 2 dM_ofState_45 rfl rfl ?_
      refine a_bipushN (a := 30) dM_ofState_46 (by decide) ?_
      refine a_icmp_geN (tgt := 60) dM_ofState_48 (by decide) (by omega) (by omega) (fun c48 => ?_) (fun c48 => ?_)
      · refine a_aload_n 1 dM_ofState_60 rfl rfl ?_
        refine a_geta (r := 109) dM_ofState_61 fl12_50 rfl ly_95 (by omega) (rf_95_29 hR) ?_
        refine a_iload_n 0 dM_ofState_64 rfl rfl ?_
        refine a_ialdN (a := (w % 10)) dM_ofState_65 ly_109 (by omega) (by omega) (by decide) ?_
        rw [show (crR I s.1 s.2.1 s.2.2.1 s.2.2.2.1 s.2.2.2.2.1 s.2.2.2.2.2.1 s.2.2.2.2.2.2.1 s.2.2.2.2.2.2.2.1 s.2.2.2.2.2.2.2.2) 109 (w % 10) = s.2.2.1 (w % 10) from rfl]
        exact a_iret dM_ofState_66 rfl ⟨by unfold osF; rw [if_neg hx2, nI_clamp (show w < 2 ^ 31 by omega), if_pos (show w % 10 < nh by omega), if_neg (show ¬ w < 20 by omega), if_neg (show ¬ w < 30 by omega)], rfl, rfl, rfl⟩
      · refine a_aload_n 1 dM_ofState_51 rfl rfl ?_
        refine a_geta (r := 108) dM_ofState_52 fl12_47 rfl ly_95 (by omega) (rf_95_28 hR) ?_
        refine a_iload_n 0 dM_ofState_55 rfl rfl ?_
        refine a_ialdN (a := (w % 10)) dM_ofState_56 ly_108 (by omega) (by omega) (by decide) ?_
        rw [show (crR I s.1 s.2.1 s.2.2.1 s.2.2.2.1 s.2.2.2.2.1 s.2.2.2.2.2.1 s.2.2.2.2.2.2.1 s.2.2.2.2.2.2.2.1 s.2.2.2.2.2.2.2.2) 108 (w % 10) = s.2.1 (w % 10) from rfl]
        refine a_goto (tgt := 66) dM_ofState_57 (by decide) ?_
        exact a_iret dM_ofState_66 rfl ⟨by unfold osF; rw [if_neg hx2, nI_clamp (show w < 2 ^ 31 by omega), if_pos (show w % 10 < nh by omega), if_neg (show ¬ w < 20 by omega), if_pos (show w < 30 by omega)], rfl, rfl, rfl⟩
    · refine a_aload_n 1 dM_ofState_36 rfl rfl ?_
      refine a_geta (r := 107) dM_ofState_37 fl12_44 rfl ly_95 (by omega) (rf_95_27 hR) ?_
      refine a_iload_n 0 dM_ofState_40 rfl rfl ?_
      refine a_ialdN (a := (w % 10)) dM_ofState_41 ly_107 (by omega) (by omega) (by decide) ?_
      rw [show (crR I s.1 s.2.1 s.2.2.1 s.2.2.2.1 s.2.2.2.2.1 s.2.2.2.2.2.1 s.2.2.2.2.2.2.1 s.2.2.2.2.2.2.2.1 s.2.2.2.2.2.2.2.2) 107 (w % 10) = s.1 (w % 10) from rfl]
      refine a_goto (tgt := 66) dM_ofState_42 (by decide) ?_
      exact a_iret dM_ofState_66 rfl ⟨by unfold osF; rw [if_neg hx2, nI_clamp (show w < 2 ^ 31 by omega), if_pos (show w % 10 < nh by omega), if_pos (show w < 20 by omega)], rfl, rfl, rfl⟩
  · refine a_sipush (v := -1000) dM_ofState_24 (by decide) ?_
    refine a_goto (tgt := 66) dM_ofState_27 (by decide) ?_
    exact a_iret dM_ofState_66 rfl ⟨by unfold osF; rw [if_neg hx2, nI_clamp (show w < 2 ^ 31 by omega), if_neg (show ¬ w % 10 < nh by omega)], rfl, rfl, rfl⟩
theorem c_M_ofState {S : Nat × (Nat → Int32)} {d n : Nat} {I : mI} {J : mJ} {R : mR} {s : cS} {ko nh nl : Nat} (hn : 122 ≤ n) (hR : m_fin R) (ho : I 95 23 = nI ko) (hk : ko < 7) (hh : I 95 24 = nI nh) (hnh : nh ≤ 6) (hl : I 95 25 = nI nl) (hnl : nl ≤ 10) (hW : WFk I ko) {x : Int32} : RUN S (d + 1) YM_ofState [.ref 95, .int x] (crT I s) J R n (some (.int (osF nh s x))) (crT I s) J R n := by
  by_cases hx : f_in x 10 39 = 0
  · exact c_M_ofState0 hn hR ho hk hh hnh hl hnl hW hx
  · obtain ⟨w, h1, h2, rfl⟩ := f_in_r hx
    exact c_M_ofState1 hn hR ho hk hh hnh hl hnl hW h1 h2
theorem plF_le {stp : Nat → cS → Option cS} : ∀ (m k : Nat) (s : cS), (plF stp m k s).1 ≤ k + m := by
  intro m
  induction m with
  | zero => intro k s; exact Nat.le_refl _
  | succ m ih =>
    intro k s
    unfold plF
    split
    · exact Nat.le_add_right _ _
    · have := ih (k + 1) (by assumption)
      omega
theorem c_M_layAll {S : Nat × (Nat → Int32)} {d n : Nat} {I : mI} {J : mJ} {R : mR} {ko kw : Nat} (hn : 122 ≤ n) (hR : m_fin R) (hk : ko < 2) (h1 : f_in (nI ko) 0 (I 100 0 - 1) = 1) (h2 : f_in (nI kw) 0 (I 100 1 - 1) = 1)  : RUN S (d + 3) YM_layAll [.ref 95, .int (nI ko), .int (nI kw)] I J R n (some (.int 1)) (hdI (m_up I 95 31 (nI kw)) ko) J R n := by
  show AW S _ YM_layAll n n _ 0 [(0, .ref 95), (1, .int (nI ko)), (2, .int (nI kw))] [] I J R n
  refine a_aload_n 0 dM_layAll_0 rfl rfl ?_
  refine a_iload_n 2 dM_layAll_1 rfl rfl ?_
  refine a_callV (Q' := m_res (some (.int (f_in (nI kw) 0 (I 100 1 - 1)))) (m_up I 95 31 (nI kw)) J R) (as := [.int (nI kw)]) (st := []) dM_layAll_2 ml12_289 rfl (Nat.le_of_ble_eq_true rfl) ly_95 rfl rfl (by decide) (by omega) (Nat.le_of_ble_eq_true rfl) rfl (Nat.le_refl _) (Nat.le_refl _) (c_M_hasWeek hn hR) (m_go ?_)
  show AW _ _ _ _ _ _ _ _ [.int (f_in (nI kw) 0 (I 100 1 - 1))] _ _ _ _
  refine a_if_eq (tgt := 20) dM_layAll_5 (by decide) (fun c => False.elim (by rw [h2] at c; exact absurd c (by decide))) (fun _ => ?_)
  refine a_aload_n 0 dM_layAll_8 rfl rfl ?_
  refine a_iload_n 1 dM_layAll_9 rfl rfl ?_
  refine a_callV (Q' := m_res (some (.int 1)) (hdI (m_up I 95 31 (nI kw)) ko) J R) (as := [.int (nI ko)]) (st := []) dM_layAll_10 ml12_277 rfl (Nat.le_of_ble_eq_true rfl) ly_95 rfl rfl (by decide) (by omega) (Nat.le_of_ble_eq_true rfl) rfl (Nat.le_refl _) (Nat.le_refl _) (c_M_hand hn hR (by omega) h1) (m_go ?_)
  show AW _ _ _ _ _ _ _ _ [.int 1] _ _ _ _
  refine a_if_eq (tgt := 20) dM_layAll_13 (by decide) (fun c => False.elim (absurd c (by decide))) (fun _ => ?_)
  refine a_iconst (v := 1) dM_layAll_16 (by decide) ?_
  refine a_goto (tgt := 21) dM_layAll_17 (by decide) ?_
  exact a_zret dM_layAll_21 rfl (by rfl) ⟨rfl, rfl, rfl, rfl⟩
theorem c_M_layAllw {S : Nat × (Nat → Int32)} {d n : Nat} {I : mI} {J : mJ} {R : mR} {x y : Int32} (hn : 122 ≤ n) (hR : m_fin R) (h2 : f_in y 0 (I 100 1 - 1) = 0) : RUN S (d + 3) YM_layAll [.ref 95, .int x, .int y] I J R n (some (.int 0)) (m_up I 95 31 y) J R n := by
  show AW S _ YM_layAll n n _ 0 [(0, .ref 95), (1, .int x), (2, .int y)] [] I J R n
  refine a_aload_n 0 dM_layAll_0 rfl rfl ?_
  refine a_iload_n 2 dM_layAll_1 rfl rfl ?_
  refine a_callV (Q' := m_res (some (.int (f_in y 0 (I 100 1 - 1)))) (m_up I 95 31 y) J R) (as := [.int y]) (st := []) dM_layAll_2 ml12_289 rfl (Nat.le_of_ble_eq_true rfl) ly_95 rfl rfl (by decide) (by omega) (Nat.le_of_ble_eq_true rfl) rfl (Nat.le_refl _) (Nat.le_refl _) (c_M_hasWeek hn hR) (m_go ?_)
  show AW _ _ _ _ _ _ _ _ [.int (f_in y 0 (I 100 1 - 1))] _ _ _ _
  refine a_if_eq (tgt := 20) dM_layAll_5 (by decide) (fun _ => ?_) (fun c => False.elim (c h2))
  refine a_iconst (v := 0) dM_layAll_20 (by decide) ?_
  exact a_zret dM_layAll_21 rfl (by rfl) ⟨rfl, rfl, rfl, rfl⟩
theorem c_M_layAllo {S : Nat × (Nat → Int32)} {d n : Nat} {I : mI} {J : mJ} {R : mR} {x y : Int32} (hn : 122 ≤ n) (hR : m_fin R) (h0 : f_in x 0 (I 100 0 - 1) = 0) (h2 : ¬ f_in y 0 (I 100 1 - 1) = 0) : RUN S (d + 3) YM_layAll [.ref 95, .int x, .int y] I J R n (some (.int 0)) (m_up I 95 31 y) J R n := by
  show AW S _ YM_layAll n n _ 0 [(0, .ref 95), (1, .int x), (2, .int y)] [] I J R n
  refine a_aload_n 0 dM_layAll_0 rfl rfl ?_
  refine a_iload_n 2 dM_layAll_1 rfl rfl ?_
  refine a_callV (Q' := m_res (some (.int (f_in y 0 (I 100 1 - 1)))) (m_up I 95 31 y) J R) (as := [.int y]) (st := []) dM_layAll_2 ml12_289 rfl (Nat.le_of_ble_eq_true rfl) ly_95 rfl rfl (by decide) (by omega) (Nat.le_of_ble_eq_true rfl) rfl (Nat.le_refl _) (Nat.le_refl _) (c_M_hasWeek hn hR) (m_go ?_)
  show AW _ _ _ _ _ _ _ _ [.int (f_in y 0 (I 100 1 - 1))] _ _ _ _
  refine a_if_eq (tgt := 20) dM_layAll_5 (by decide) (fun c => False.elim (h2 c)) (fun _ => ?_)
  refine a_aload_n 0 dM_layAll_8 rfl rfl ?_
  refine a_iload_n 1 dM_layAll_9 rfl rfl ?_
  refine a_callV (Q' := m_res (some (.int 0)) (m_up I 95 31 y) J R) (as := [.int x]) (st := []) dM_layAll_10 ml12_277 rfl (Nat.le_of_ble_eq_true rfl) ly_95 rfl rfl (by decide) (by omega) (Nat.le_of_ble_eq_true rfl) rfl (Nat.le_refl _) (Nat.le_refl _) (c_M_hand0 hn hR h0) (m_go ?_)
  show AW _ _ _ _ _ _ _ _ [.int 0] _ _ _ _
  refine a_if_eq (tgt := 20) dM_layAll_13 (by decide) (fun _ => ?_) (fun c => False.elim (c rfl))
  refine a_iconst (v := 0) dM_layAll_20 (by decide) ?_
  exact a_zret dM_layAll_21 rfl (by rfl) ⟨rfl, rfl, rfl, rfl⟩
/-- the reference's memory with an office and a week at hand -/
abbrev laI (I : mI) (ko kw : Nat) : mI := hdI (m_up (cdI I) 95 31 (nI kw)) ko
theorem la_oR {I : mI} {ko kw k : Nat} : oR (laI I ko kw) k = oR I k := by unfold laI; rw [hd_oR]; rfl
theorem la_101 {I : mI} {ko kw a : Nat} (h : a ≠ 95) (h6 : a ≠ 106) (h7 : a ≠ 107) (h8 : a ≠ 108) (h9 : a ≠ 109) : laI I ko kw a = I a := by unfold laI; rw [hd_o h h6 h7 h8 h9, m_up_ne h]; exact m_up_ne h
theorem la_23 {I : mI} {ko kw : Nat} : laI I ko kw 95 23 = nI ko := rfl
theorem la_24 {I : mI} {ko kw : Nat} : laI I ko kw 95 24 = oR I ko 0 := rfl
theorem la_25 {I : mI} {ko kw : Nat} : laI I ko kw 95 25 = oR I ko 1 := rfl
theorem la_31 {I : mI} {ko kw : Nat} : laI I ko kw 95 31 = nI kw := rfl
theorem hd_106 {I : mI} {ko : Nat} : hdI I ko 106 = m_fill (fun l => oR I ko (9 + l)) (I 106) 10 := by
  unfold hdI bgI bgK hdK
  rw [m_row_ne (by decide), m_row_ne (by decide), m_row_ne (by decide), m_row_eq]
theorem la_WFk {I : mI} {ko kw : Nat} (h : WFk I ko) : WFk (laI I ko kw) ko := by unfold WFk kdN; rw [la_oR]; exact h
theorem la_WFh {I : mI} {ko kw nl : Nat} (hnl : nl ≤ 10) (h : WFh (fun l => oR I ko (9 + l)) nl) : WFh (laI I ko kw 106) nl := by
  intro l hl
  unfold laI
  rw [hd_106]
  unfold m_fill
  rw [if_pos (by omega)]
  exact h l hl
theorem la_WFw {I : mI} {ko kw c : Nat} (h : WFw I kw c) : WFw (laI I ko kw) kw c := by
  unfold WFw wkR0
  rw [la_101 (by decide) (by decide) (by decide) (by decide) (by decide)]
  exact h
theorem c_M_till1 {S : Nat × (Nat → Int32)} {d n : Nat} {I : mI} {J : mJ} {R : mR} (hn : 122 ≤ n) (hR : m_fin R) {ko kw nh nl c : Nat} (hk : ko < 2) (hw2 : kw < 2) (h1 : f_in (nI ko) 0 (I 100 0 - 1) = 1) (h2 : f_in (nI kw) 0 (I 100 1 - 1) = 1) (hh : oR I ko 0 = nI nh) (hnh : nh ≤ 6) (hl : oR I ko 1 = nI nl) (hnl : nl ≤ 10) (hW : WFk I ko) (hH : WFh (fun l => oR I ko (9 + l)) nl) (hcc : I 102 (121 * kw) = nI c) (hc : c ≤ 40) (hww : WFw I kw c)  : RUN S (d + 9) YM_till [.ref 95, .int (nI ko), .int (nI kw)] I J R n (some (.int (nI (plR (laI I ko kw) ko nh nl kw c).1))) (crT (laI I ko kw) (plR (laI I ko kw) ko nh nl kw c).2) J R n := by
  show AW S _ YM_till n n _ 0 [(0, .ref 95), (1, .int (nI ko)), (2, .int (nI kw))] [] I J R n
  refine a_aload_n 0 dM_till_0 rfl rfl ?_
  refine a_iconst (v := 0) dM_till_1 (by decide) ?_
  refine a_puti dM_till_2 fl12_90 rfl ly_95 (by omega) ?_
  refine a_aload_n 0 dM_till_5 rfl rfl ?_
  refine a_iload_n 1 dM_till_6 rfl rfl ?_
  refine a_iload_n 2 dM_till_7 rfl rfl ?_
  refine a_callV (Q' := m_res (some (.int 1)) (laI I ko kw) J R) (as := [.int (nI ko), .int (nI kw)]) (st := []) dM_till_8 ml12_337 rfl (Nat.le_of_ble_eq_true rfl) ly_95 rfl rfl (by decide) (by omega) (Nat.le_of_ble_eq_true rfl) rfl (Nat.le_refl _) (Nat.le_refl _) (c_M_layAll hn hR hk h1 h2) (m_go ?_)
  show AW _ _ _ _ _ _ _ _ [.int 1] _ _ _ _
  refine a_if_eq (tgt := 25) dM_till_11 (by decide) (fun c => False.elim (absurd c (by decide))) (fun _ => ?_)
  refine a_aload_n 0 dM_till_14 rfl rfl ?_
  refine a_aload_n 0 dM_till_15 rfl rfl ?_
  refine a_callV (Q' := m_res (some (.int (nI c))) (laI I ko kw) J R) (as := []) (st := [.ref 95]) dM_till_16 ml12_292 rfl (Nat.le_of_ble_eq_true rfl) ly_95 rfl rfl (by decide) (by omega) (Nat.le_of_ble_eq_true rfl) rfl (Nat.le_refl _) (Nat.le_refl _) (by have h := c_M_deeds (S := S) (d := d + 8) (J := J) (I := laI I ko kw) (kw := kw) hn hR la_31 (by omega); rw [la_101 (by decide) (by decide) (by decide) (by decide) (by decide), hcc] at h; exact h) (m_go ?_)
  show AW _ _ _ _ _ _ _ _ [.int (nI c), .ref 95] _ _ _ _
  refine a_callV (Q' := m_res (some (.int (nI (plR (laI I ko kw) ko nh nl kw c).1))) (crT (laI I ko kw) (plR (laI I ko kw) ko nh nl kw c).2) J R) (as := [.int (nI c)]) (st := []) dM_till_19 ml12_340 rfl (Nat.le_of_ble_eq_true rfl) ly_95 rfl rfl (by decide) (by omega) (Nat.le_of_ble_eq_true rfl) rfl (Nat.le_refl _) (Nat.le_refl _) (c_M_play hn hR (la_23 (I := I) (kw := kw)) (by omega) ((la_24 (I := I) (kw := kw)).trans hh) hnh ((la_25 (I := I) (kw := kw)).trans hl) hnl (la_WFk hW) la_31 hw2 (la_WFh hnl hH) (N := c) (Nat.le_refl _) hc (la_WFw hww)) (m_go ?_)
  show AW _ _ _ _ _ _ _ _ [.int (nI (plR (laI I ko kw) ko nh nl kw c).1)] _ _ _ _
  refine a_goto (tgt := 26) dM_till_22 (by decide) ?_
  exact a_iret dM_till_26 rfl ⟨rfl, rfl, rfl, rfl⟩
theorem c_M_till0 {S : Nat × (Nat → Int32)} {d n : Nat} {I : mI} {J : mJ} {R : mR} {x y : Int32} (hn : 122 ≤ n) (hR : m_fin R) (h0 : f_in x 0 (I 100 0 - 1) = 0 ∨ f_in y 0 (I 100 1 - 1) = 0)  : RUN S (d + 9) YM_till [.ref 95, .int x, .int y] I J R n (some (.int (-1))) (m_up (cdI I) 95 31 y) J R n := by
  show AW S _ YM_till n n _ 0 [(0, .ref 95), (1, .int x), (2, .int y)] [] I J R n
  refine a_aload_n 0 dM_till_0 rfl rfl ?_
  refine a_iconst (v := 0) dM_till_1 (by decide) ?_
  refine a_puti dM_till_2 fl12_90 rfl ly_95 (by omega) ?_
  refine a_aload_n 0 dM_till_5 rfl rfl ?_
  refine a_iload_n 1 dM_till_6 rfl rfl ?_
  refine a_iload_n 2 dM_till_7 rfl rfl ?_
  refine a_callV (Q' := m_res (some (.int 0)) (m_up (cdI I) 95 31 y) J R) (as := [.int x, .int y]) (st := []) dM_till_8 ml12_337 rfl (Nat.le_of_ble_eq_true rfl) ly_95 rfl rfl (by decide) (by omega) (Nat.le_of_ble_eq_true rfl) rfl (Nat.le_refl _) (Nat.le_refl _) (by by_cases h2 : f_in y 0 (I 100 1 - 1) = 0; exact c_M_layAllw hn hR h2; exact c_M_layAllo hn hR (h0.resolve_right h2) h2) (m_go ?_)
  show AW _ _ _ _ _ _ _ _ [.int 0] _ _ _ _
  refine a_if_eq (tgt := 25) dM_till_11 (by decide) (fun _ => ?_) (fun c => False.elim (c rfl))
  refine a_iconst (v := -1) dM_till_25 (by decide) ?_
  exact a_iret dM_till_26 rfl ⟨rfl, rfl, rfl, rfl⟩
theorem c_M_state0 {S : Nat × (Nat → Int32)} {d n : Nat} {I : mI} {J : mJ} {R : mR} {x y : Int32} (hn : 122 ≤ n) (hR : m_fin R) (h0 : f_in x 0 (I 100 0 - 1) = 0 ∨ f_in y 0 (I 100 1 - 1) = 0) {z t : Int32} : RUN S (d + 9) YM_state [.ref 95, .int x, .int y, .int z, .int t] I J R n (some (.int (-1000))) (m_up (cdI I) 95 31 y) J R n := by
  show AW S _ YM_state n n _ 0 [(0, .ref 95), (1, .int x), (2, .int y), (3, .int z), (4, .int t)] [] I J R n
  refine a_aload_n 0 dM_state_0 rfl rfl ?_
  refine a_iconst (v := 0) dM_state_1 (by decide) ?_
  refine a_puti dM_state_2 fl12_90 rfl ly_95 (by omega) ?_
  refine a_aload_n 0 dM_state_5 rfl rfl ?_
  refine a_iload_n 1 dM_state_6 rfl rfl ?_
  refine a_iload_n 2 dM_state_7 rfl rfl ?_
  refine a_callV (Q' := m_res (some (.int 0)) (m_up (cdI I) 95 31 y) J R) (as := [.int x, .int y]) (st := []) dM_state_8 ml12_337 rfl (Nat.le_of_ble_eq_true rfl) ly_95 rfl rfl (by decide) (by omega) (Nat.le_of_ble_eq_true rfl) rfl (Nat.le_refl _) (Nat.le_refl _) (by by_cases h2 : f_in y 0 (I 100 1 - 1) = 0; exact c_M_layAllw hn hR h2; exact c_M_layAllo hn hR (h0.resolve_right h2) h2) (m_go ?_)
  show AW _ _ _ _ _ _ _ _ [.int 0] _ _ _ _
  refine a_if_eq (tgt := 44) dM_state_11 (by decide) (fun _ => ?_) (fun c => False.elim (c rfl))
  refine a_sipush (v := -1000) dM_state_44 (by decide) ?_
  exact a_iret dM_state_47 rfl ⟨rfl, rfl, rfl, rfl⟩
theorem c_M_state1 {S : Nat × (Nat → Int32)} {d n : Nat} {I : mI} {J : mJ} {R : mR} (hn : 122 ≤ n) (hR : m_fin R) {ko kw nh nl c : Nat} (hk : ko < 2) (hw2 : kw < 2) (h1 : f_in (nI ko) 0 (I 100 0 - 1) = 1) (h2 : f_in (nI kw) 0 (I 100 1 - 1) = 1) (hh : oR I ko 0 = nI nh) (hnh : nh ≤ 6) (hl : oR I ko 1 = nI nl) (hnl : nl ≤ 10) (hW : WFk I ko) (hH : WFh (fun l => oR I ko (9 + l)) nl) (hcc : I 102 (121 * kw) = nI c) (hc : c ≤ 40) (hww : WFw I kw c) {z t : Int32} (hz : f_in z 0 (nI c) = 0) : RUN S (d + 9) YM_state [.ref 95, .int (nI ko), .int (nI kw), .int z, .int t] I J R n (some (.int (-1000))) (laI I ko kw) J R n := by
  show AW S _ YM_state n n _ 0 [(0, .ref 95), (1, .int (nI ko)), (2, .int (nI kw)), (3, .int z), (4, .int t)] [] I J R n
  refine a_aload_n 0 dM_state_0 rfl rfl ?_
  refine a_iconst (v := 0) dM_state_1 (by decide) ?_
  refine a_puti dM_state_2 fl12_90 rfl ly_95 (by omega) ?_
  refine a_aload_n 0 dM_state_5 rfl rfl ?_
  refine a_iload_n 1 dM_state_6 rfl rfl ?_
  refine a_iload_n 2 dM_state_7 rfl rfl ?_
  refine a_callV (Q' := m_res (some (.int 1)) (laI I ko kw) J R) (as := [.int (nI ko), .int (nI kw)]) (st := []) dM_state_8 ml12_337 rfl (Nat.le_of_ble_eq_true rfl) ly_95 rfl rfl (by decide) (by omega) (Nat.le_of_ble_eq_true rfl) rfl (Nat.le_refl _) (Nat.le_refl _) (c_M_layAll hn hR hk h1 h2) (m_go ?_)
  show AW _ _ _ _ _ _ _ _ [.int 1] _ _ _ _
  refine a_if_eq (tgt := 44) dM_state_11 (by decide) (fun c => False.elim (absurd c (by decide))) (fun _ => ?_)
  refine a_iload_n 3 dM_state_14 rfl rfl ?_
  refine a_iconst (v := 0) dM_state_15 (by decide) ?_
  refine a_aload_n 0 dM_state_16 rfl rfl ?_
  refine a_callV (Q' := m_res (some (.int (nI c))) (laI I ko kw) J R) (as := []) (st := [.int 0, .int z]) dM_state_17 ml12_292 rfl (Nat.le_of_ble_eq_true rfl) ly_95 rfl rfl (by decide) (by omega) (Nat.le_of_ble_eq_true rfl) rfl (Nat.le_refl _) (Nat.le_refl _) (by have h := c_M_deeds (S := S) (d := d + 8) (J := J) (I := laI I ko kw) (kw := kw) hn hR la_31 (by omega); rw [la_101 (by decide) (by decide) (by decide) (by decide) (by decide), hcc] at h; exact h) (m_go ?_)
  show AW _ _ _ _ _ _ _ _ [.int (nI c), .int 0, .int z] _ _ _ _
  refine a_callS (Q' := m_res (some (.int (f_in z 0 (nI c)))) (laI I ko kw) J R) (as := [.int z, .int 0, .int (nI c)]) (st := []) dM_state_20 ml12_102 rfl (Nat.le_of_ble_eq_true rfl) (Nat.le_of_ble_eq_true rfl) rfl (Nat.le_refl _) (Nat.le_refl _) c_M_in (m_go ?_)
  show AW _ _ _ _ _ _ _ _ [.int (f_in z 0 (nI c))] _ _ _ _
  refine a_if_eq (tgt := 44) dM_state_23 (by decide) (fun _ => ?_) (fun c => False.elim (c hz))
  refine a_sipush (v := -1000) dM_state_44 (by decide) ?_
  exact a_iret dM_state_47 rfl ⟨rfl, rfl, rfl, rfl⟩
theorem c_M_state2 {S : Nat × (Nat → Int32)} {d n : Nat} {I : mI} {J : mJ} {R : mR} (hn : 122 ≤ n) (hR : m_fin R) {ko kw nh nl c : Nat} (hk : ko < 2) (hw2 : kw < 2) (h1 : f_in (nI ko) 0 (I 100 0 - 1) = 1) (h2 : f_in (nI kw) 0 (I 100 1 - 1) = 1) (hh : oR I ko 0 = nI nh) (hnh : nh ≤ 6) (hl : oR I ko 1 = nI nl) (hnl : nl ≤ 10) (hW : WFk I ko) (hH : WFh (fun l => oR I ko (9 + l)) nl) (hcc : I 102 (121 * kw) = nI c) (hc : c ≤ 40) (hww : WFw I kw c) {N : Nat} {t : Int32} (hz : ¬ f_in (nI N) 0 (nI c) = 0) (hN : N ≤ c) : RUN S (d + 9) YM_state [.ref 95, .int (nI ko), .int (nI kw), .int (nI N), .int t] I J R n (some (.int (if (plR (laI I ko kw) ko nh nl kw N).1 = N then osF nh (plR (laI I ko kw) ko nh nl kw N).2 t else -1000))) (crT (laI I ko kw) (plR (laI I ko kw) ko nh nl kw N).2) J R n := by
  show AW S _ YM_state n n _ 0 [(0, .ref 95), (1, .int (nI ko)), (2, .int (nI kw)), (3, .int (nI N)), (4, .int t)] [] I J R n
  have hple : (plR (laI I ko kw) ko nh nl kw N).1 ≤ N := Nat.le_trans (plF_le N 0 _) (by omega)
  refine a_aload_n 0 dM_state_0 rfl rfl ?_
  refine a_iconst (v := 0) dM_state_1 (by decide) ?_
  refine a_puti dM_state_2 fl12_90 rfl ly_95 (by omega) ?_
  refine a_aload_n 0 dM_state_5 rfl rfl ?_
  refine a_iload_n 1 dM_state_6 rfl rfl ?_
  refine a_iload_n 2 dM_state_7 rfl rfl ?_
  refine a_callV (Q' := m_res (some (.int 1)) (laI I ko kw) J R) (as := [.int (nI ko), .int (nI kw)]) (st := []) dM_state_8 ml12_337 rfl (Nat.le_of_ble_eq_true rfl) ly_95 rfl rfl (by decide) (by omega) (Nat.le_of_ble_eq_true rfl) rfl (Nat.le_refl _) (Nat.le_refl _) (c_M_layAll hn hR hk h1 h2) (m_go ?_)
  show AW _ _ _ _ _ _ _ _ [.int 1] _ _ _ _
  refine a_if_eq (tgt := 44) dM_state_11 (by decide) (fun c => False.elim (absurd c (by decide))) (fun _ => ?_)
  refine a_iload_n 3 dM_state_14 rfl rfl ?_
  refine a_iconst (v := 0) dM_state_15 (by decide) ?_
  refine a_aload_n 0 dM_state_16 rfl rfl ?_
  refine a_callV (Q' := m_res (some (.int (nI c))) (laI I ko kw) J R) (as := []) (st := [.int 0, .int (nI N)]) dM_state_17 ml12_292 rfl (Nat.le_of_ble_eq_true rfl) ly_95 rfl rfl (by decide) (by omega) (Nat.le_of_ble_eq_true rfl) rfl (Nat.le_refl _) (Nat.le_refl _) (by have h := c_M_deeds (S := S) (d := d + 8) (J := J) (I := laI I ko kw) (kw := kw) hn hR la_31 (by omega); rw [la_101 (by decide) (by decide) (by decide) (by decide) (by decide), hcc] at h; exact h) (m_go ?_)
  show AW _ _ _ _ _ _ _ _ [.int (nI c), .int 0, .int (nI N)] _ _ _ _
  refine a_callS (Q' := m_res (some (.int (f_in (nI N) 0 (nI c)))) (laI I ko kw) J R) (as := [.int (nI N), .int 0, .int (nI c)]) (st := []) dM_state_20 ml12_102 rfl (Nat.le_of_ble_eq_true rfl) (Nat.le_of_ble_eq_true rfl) rfl (Nat.le_refl _) (Nat.le_refl _) c_M_in (m_go ?_)
  show AW _ _ _ _ _ _ _ _ [.int (f_in (nI N) 0 (nI c))] _ _ _ _
  refine a_if_eq (tgt := 44) dM_state_23 (by decide) (fun c => False.elim (hz c)) (fun _ => ?_)
  refine a_aload_n 0 dM_state_26 rfl rfl ?_
  refine a_iload_n 3 dM_state_27 rfl rfl ?_
  refine a_callV (Q' := m_res (some (.int (nI (plR (laI I ko kw) ko nh nl kw N).1))) (crT (laI I ko kw) (plR (laI I ko kw) ko nh nl kw N).2) J R) (as := [.int (nI N)]) (st := []) dM_state_28 ml12_340 rfl (Nat.le_of_ble_eq_true rfl) ly_95 rfl rfl (by decide) (by omega) (Nat.le_of_ble_eq_true rfl) rfl (Nat.le_refl _) (Nat.le_refl _) (c_M_play hn hR (la_23 (I := I) (kw := kw)) (by omega) ((la_24 (I := I) (kw := kw)).trans hh) hnh ((la_25 (I := I) (kw := kw)).trans hl) hnl (la_WFk hW) la_31 hw2 (la_WFh hnl hH) (N := N) hN hc (la_WFw hww)) (m_go ?_)
  show AW _ _ _ _ _ _ _ _ [.int (nI (plR (laI I ko kw) ko nh nl kw N).1)] _ _ _ _
  refine a_iload_n 3 dM_state_31 rfl rfl ?_
  refine a_icmp_neN (tgt := 44) dM_state_32 (by decide) (by omega) (by omega) (fun c32 => ?_) (fun c32 => ?_)
  · refine a_sipush (v := -1000) dM_state_44 (by decide) ?_
    exact a_iret dM_state_47 rfl ⟨by rw [if_neg c32], rfl, rfl, rfl⟩
  · refine a_aload_n 0 dM_state_35 rfl rfl ?_
    refine a_iload 4 dM_state_36 rfl ?_
    refine a_callV (Q' := m_res (some (.int (osF nh (plR (laI I ko kw) ko nh nl kw N).2 t))) (crT (laI I ko kw) (plR (laI I ko kw) ko nh nl kw N).2) J R) (as := [.int t]) (st := []) dM_state_38 ml12_346 rfl (Nat.le_of_ble_eq_true rfl) ly_95 rfl rfl (by decide) (by omega) (Nat.le_of_ble_eq_true rfl) rfl (Nat.le_refl _) (Nat.le_refl _) (c_M_ofState hn hR (la_23 (I := I) (kw := kw)) (by omega) ((la_24 (I := I) (kw := kw)).trans hh) hnh ((la_25 (I := I) (kw := kw)).trans hl) hnl (la_WFk hW)) (m_go ?_)
    show AW _ _ _ _ _ _ _ _ [.int (osF nh (plR (laI I ko kw) ko nh nl kw N).2 t)] _ _ _ _
    refine a_goto (tgt := 47) dM_state_41 (by decide) ?_
    exact a_iret dM_state_47 rfl ⟨by rw [if_pos c32], rfl, rfl, rfl⟩
