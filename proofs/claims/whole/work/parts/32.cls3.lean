theorem c_Told_has {S : Nat × (Nat → Int32)} {d n : Nat} {I : mI} {J : mJ} {R : mR} (hn : 122 ≤ n) (hR : m_fin R) {s : Nat} {x : Int32} (hs : s < 3) : RUN S d YTold_has [.ref 1, .int (nI s), .int x] I J R n (some (.int (f_of x (I 3 s)))) I J R n := by
  show AW S _ YTold_has n n _ 0 [(0, .ref 1), (1, .int (nI s)), (2, .int x)] [] I J R n
  refine a_iload_n 2 dTold_has_0 rfl rfl ?_
  refine a_if_lt (tgt := 18) dTold_has_1 (by decide) (fun c1 => ?_) (fun c1 => ?_)
  · refine a_iconst (v := 0) dTold_has_18 (by decide) ?_
    exact a_zret dTold_has_19 rfl (by rfl) ⟨by simp [f_of, *], rfl, rfl, rfl⟩
  · refine a_iload_n 2 dTold_has_4 rfl rfl ?_
    refine a_aload_n 0 dTold_has_5 rfl rfl ?_
    refine a_geta (r := 3) dTold_has_6 fl9_19 rfl ly_1 (by omega) (rf_1_4 hR) ?_
    refine a_iload_n 1 dTold_has_9 rfl rfl ?_
    refine a_ialdN (a := s) dTold_has_10 ly_3 (by omega) (by omega) (by decide) ?_
    refine a_icmp_ge (tgt := 18) dTold_has_11 (by decide) (fun c11 => ?_) (fun c11 => ?_)
    · refine a_iconst (v := 0) dTold_has_18 (by decide) ?_
      exact a_zret dTold_has_19 rfl (by rfl) ⟨by simp [f_of, *], rfl, rfl, rfl⟩
    · refine a_iconst (v := 1) dTold_has_14 (by decide) ?_
      refine a_goto (tgt := 19) dTold_has_15 (by decide) ?_
      exact a_zret dTold_has_19 rfl (by rfl) ⟨by simp [f_of, *], rfl, rfl, rfl⟩
theorem c_Told_officeAt0 {S : Nat × (Nat → Int32)} {d n : Nat} {I : mI} {J : mJ} {R : mR} (hn : 122 ≤ n) (hR : m_fin R) {x : Int32} (h0 : f_of x (I 3 0) = 0) : RUN S (d + 1) YTold_officeAt [.ref 1, .int x] I J R n (some (.null)) I J R n := by
  show AW S _ YTold_officeAt n n _ 0 [(0, .ref 1), (1, .int x)] [] I J R n
  refine a_aload_n 0 dTold_officeAt_0 rfl rfl ?_
  refine a_iconstN (a := 0) dTold_officeAt_1 (by decide) ?_
  refine a_iload_n 1 dTold_officeAt_2 rfl rfl ?_
  refine a_callV (Q' := m_res (some (.int (f_of x (I 3 0)))) I J R) (as := [.int (nI 0), .int x]) (st := []) dTold_officeAt_3 ml9_66 rfl (Nat.le_of_ble_eq_true rfl) ly_1 rfl rfl (by decide) (by omega) (Nat.le_of_ble_eq_true rfl) rfl (Nat.le_refl _) (Nat.le_refl _) (c_Told_has (s := 0) hn hR (by omega)) (m_go ?_)
  show AW _ _ _ _ _ _ _ _ [.int (f_of x (I 3 0))] _ _ _ _
  refine a_if_eq (tgt := 18) dTold_officeAt_6 (by decide) (fun _ => ?_) (fun c => False.elim (c h0))
  refine a_null dTold_officeAt_18 ?_
  exact a_aret dTold_officeAt_19 rfl ⟨_, rfl⟩ (Or.inl rfl) ⟨rfl, rfl, rfl, rfl⟩
theorem c_Told_officeAt1 {S : Nat × (Nat → Int32)} {d n : Nat} {I : mI} {J : mJ} {R : mR} (hn : 122 ≤ n) (hR : m_fin R) {k o : Nat} (h1 : f_of (nI k) (I 3 0) = 1) (hk : k < 2) (hro : R 4 k = some o) : RUN S (d + 1) YTold_officeAt [.ref 1, .int (nI k)] I J R n (some (.ref o)) I J R n := by
  show AW S _ YTold_officeAt n n _ 0 [(0, .ref 1), (1, .int (nI k))] [] I J R n
  refine a_aload_n 0 dTold_officeAt_0 rfl rfl ?_
  refine a_iconstN (a := 0) dTold_officeAt_1 (by decide) ?_
  refine a_iload_n 1 dTold_officeAt_2 rfl rfl ?_
  refine a_callV (Q' := m_res (some (.int (f_of (nI k) (I 3 0)))) I J R) (as := [.int (nI 0), .int (nI k)]) (st := []) dTold_officeAt_3 ml9_66 rfl (Nat.le_of_ble_eq_true rfl) ly_1 rfl rfl (by decide) (by omega) (Nat.le_of_ble_eq_true rfl) rfl (Nat.le_refl _) (Nat.le_refl _) (c_Told_has (s := 0) hn hR (by omega)) (m_go ?_)
  show AW _ _ _ _ _ _ _ _ [.int (f_of (nI k) (I 3 0))] _ _ _ _
  refine a_if_eq (tgt := 18) dTold_officeAt_6 (by decide) (fun c => False.elim (by rw [h1] at c; exact absurd c (by decide))) (fun _ => ?_)
  refine a_aload_n 0 dTold_officeAt_9 rfl rfl ?_
  refine a_geta (r := 4) dTold_officeAt_10 fl9_26 rfl ly_1 (by omega) (rf_1_5 hR) ?_
  refine a_iload_n 1 dTold_officeAt_13 rfl rfl ?_
  refine a_aaldN2 (r := o) dTold_officeAt_14 ly_4 (by omega) (by omega) (by omega) (by omega) (by decide) hro ?_
  refine a_goto (tgt := 19) dTold_officeAt_15 (by decide) ?_
  exact a_aret dTold_officeAt_19 rfl ⟨_, rfl⟩ (Or.inr ⟨_, rfl⟩) ⟨rfl, rfl, rfl, rfl⟩
theorem c_Told_weekAt0 {S : Nat × (Nat → Int32)} {d n : Nat} {I : mI} {J : mJ} {R : mR} (hn : 122 ≤ n) (hR : m_fin R) {x : Int32} (h0 : f_of x (I 3 1) = 0) : RUN S (d + 1) YTold_weekAt [.ref 1, .int x] I J R n (some (.null)) I J R n := by
  show AW S _ YTold_weekAt n n _ 0 [(0, .ref 1), (1, .int x)] [] I J R n
  refine a_aload_n 0 dTold_weekAt_0 rfl rfl ?_
  refine a_iconstN (a := 1) dTold_weekAt_1 (by decide) ?_
  refine a_iload_n 1 dTold_weekAt_2 rfl rfl ?_
  refine a_callV (Q' := m_res (some (.int (f_of x (I 3 1)))) I J R) (as := [.int (nI 1), .int x]) (st := []) dTold_weekAt_3 ml9_66 rfl (Nat.le_of_ble_eq_true rfl) ly_1 rfl rfl (by decide) (by omega) (Nat.le_of_ble_eq_true rfl) rfl (Nat.le_refl _) (Nat.le_refl _) (c_Told_has (s := 1) hn hR (by omega)) (m_go ?_)
  show AW _ _ _ _ _ _ _ _ [.int (f_of x (I 3 1))] _ _ _ _
  refine a_if_eq (tgt := 18) dTold_weekAt_6 (by decide) (fun _ => ?_) (fun c => False.elim (c h0))
  refine a_null dTold_weekAt_18 ?_
  exact a_aret dTold_weekAt_19 rfl ⟨_, rfl⟩ (Or.inl rfl) ⟨rfl, rfl, rfl, rfl⟩
theorem c_Told_weekAt1 {S : Nat × (Nat → Int32)} {d n : Nat} {I : mI} {J : mJ} {R : mR} (hn : 122 ≤ n) (hR : m_fin R) {k o : Nat} (h1 : f_of (nI k) (I 3 1) = 1) (hk : k < 2) (hro : R 23 k = some o) : RUN S (d + 1) YTold_weekAt [.ref 1, .int (nI k)] I J R n (some (.ref o)) I J R n := by
  show AW S _ YTold_weekAt n n _ 0 [(0, .ref 1), (1, .int (nI k))] [] I J R n
  refine a_aload_n 0 dTold_weekAt_0 rfl rfl ?_
  refine a_iconstN (a := 1) dTold_weekAt_1 (by decide) ?_
  refine a_iload_n 1 dTold_weekAt_2 rfl rfl ?_
  refine a_callV (Q' := m_res (some (.int (f_of (nI k) (I 3 1)))) I J R) (as := [.int (nI 1), .int (nI k)]) (st := []) dTold_weekAt_3 ml9_66 rfl (Nat.le_of_ble_eq_true rfl) ly_1 rfl rfl (by decide) (by omega) (Nat.le_of_ble_eq_true rfl) rfl (Nat.le_refl _) (Nat.le_refl _) (c_Told_has (s := 1) hn hR (by omega)) (m_go ?_)
  show AW _ _ _ _ _ _ _ _ [.int (f_of (nI k) (I 3 1))] _ _ _ _
  refine a_if_eq (tgt := 18) dTold_weekAt_6 (by decide) (fun c => False.elim (by rw [h1] at c; exact absurd c (by decide))) (fun _ => ?_)
  refine a_aload_n 0 dTold_weekAt_9 rfl rfl ?_
  refine a_geta (r := 23) dTold_weekAt_10 fl9_33 rfl ly_1 (by omega) (rf_1_6 hR) ?_
  refine a_iload_n 1 dTold_weekAt_13 rfl rfl ?_
  refine a_aaldN2 (r := o) dTold_weekAt_14 ly_23 (by omega) (by omega) (by omega) (by omega) (by decide) hro ?_
  refine a_goto (tgt := 19) dTold_weekAt_15 (by decide) ?_
  exact a_aret dTold_weekAt_19 rfl ⟨_, rfl⟩ (Or.inr ⟨_, rfl⟩) ⟨rfl, rfl, rfl, rfl⟩
theorem c_Told_logAt0 {S : Nat × (Nat → Int32)} {d n : Nat} {I : mI} {J : mJ} {R : mR} (hn : 122 ≤ n) (hR : m_fin R) {x : Int32} (h0 : f_of x (I 3 2) = 0) : RUN S (d + 1) YTold_logAt [.ref 1, .int x] I J R n (some (.null)) I J R n := by
  show AW S _ YTold_logAt n n _ 0 [(0, .ref 1), (1, .int x)] [] I J R n
  refine a_aload_n 0 dTold_logAt_0 rfl rfl ?_
  refine a_iconstN (a := 2) dTold_logAt_1 (by decide) ?_
  refine a_iload_n 1 dTold_logAt_2 rfl rfl ?_
  refine a_callV (Q' := m_res (some (.int (f_of x (I 3 2)))) I J R) (as := [.int (nI 2), .int x]) (st := []) dTold_logAt_3 ml9_66 rfl (Nat.le_of_ble_eq_true rfl) ly_1 rfl rfl (by decide) (by omega) (Nat.le_of_ble_eq_true rfl) rfl (Nat.le_refl _) (Nat.le_refl _) (c_Told_has (s := 2) hn hR (by omega)) (m_go ?_)
  show AW _ _ _ _ _ _ _ _ [.int (f_of x (I 3 2))] _ _ _ _
  refine a_if_eq (tgt := 18) dTold_logAt_6 (by decide) (fun _ => ?_) (fun c => False.elim (c h0))
  refine a_null dTold_logAt_18 ?_
  exact a_aret dTold_logAt_19 rfl ⟨_, rfl⟩ (Or.inl rfl) ⟨rfl, rfl, rfl, rfl⟩
theorem c_Told_logAt1 {S : Nat × (Nat → Int32)} {d n : Nat} {I : mI} {J : mJ} {R : mR} (hn : 122 ≤ n) (hR : m_fin R) {k o : Nat} (h1 : f_of (nI k) (I 3 2) = 1) (hk : k < 2) (hro : R 32 k = some o) : RUN S (d + 1) YTold_logAt [.ref 1, .int (nI k)] I J R n (some (.ref o)) I J R n := by
  show AW S _ YTold_logAt n n _ 0 [(0, .ref 1), (1, .int (nI k))] [] I J R n
  refine a_aload_n 0 dTold_logAt_0 rfl rfl ?_
  refine a_iconstN (a := 2) dTold_logAt_1 (by decide) ?_
  refine a_iload_n 1 dTold_logAt_2 rfl rfl ?_
  refine a_callV (Q' := m_res (some (.int (f_of (nI k) (I 3 2)))) I J R) (as := [.int (nI 2), .int (nI k)]) (st := []) dTold_logAt_3 ml9_66 rfl (Nat.le_of_ble_eq_true rfl) ly_1 rfl rfl (by decide) (by omega) (Nat.le_of_ble_eq_true rfl) rfl (Nat.le_refl _) (Nat.le_refl _) (c_Told_has (s := 2) hn hR (by omega)) (m_go ?_)
  show AW _ _ _ _ _ _ _ _ [.int (f_of (nI k) (I 3 2))] _ _ _ _
  refine a_if_eq (tgt := 18) dTold_logAt_6 (by decide) (fun c => False.elim (by rw [h1] at c; exact absurd c (by decide))) (fun _ => ?_)
  refine a_aload_n 0 dTold_logAt_9 rfl rfl ?_
  refine a_geta (r := 32) dTold_logAt_10 fl9_40 rfl ly_1 (by omega) (rf_1_7 hR) ?_
  refine a_iload_n 1 dTold_logAt_13 rfl rfl ?_
  refine a_aaldN2 (r := o) dTold_logAt_14 ly_32 (by omega) (by omega) (by omega) (by omega) (by decide) hro ?_
  refine a_goto (tgt := 19) dTold_logAt_15 (by decide) ?_
  exact a_aret dTold_logAt_19 rfl ⟨_, rfl⟩ (Or.inr ⟨_, rfl⟩) ⟨rfl, rfl, rfl, rfl⟩
def m_wks : List Nat := [24, 28, 50, 145, 149, 183, 187, 221, 225]
def wkR (R : mR) (o : Nat) : Prop := ∀ k, k < 3 → R o (1 + k) = some (o + 1 + k)
def m_lgs : List Nat := [33, 36, 54, 154, 157, 192, 195, 230, 233]
def lgR (R : mR) (o : Nat) : Prop := ∀ k, k < 2 → R o (1 + k) = some (o + 1 + k)
theorem wk_l0 {w : Nat} (h : w ∈ m_wks) : m_lay w = (10, 4) := (show ∀ w ∈ m_wks, m_lay w = (10, 4) by decide +kernel) w h
theorem wk_l1 {w : Nat} (h : w ∈ m_wks) : m_lay (w + 1) = (50, 40) := (show ∀ w ∈ m_wks, m_lay (w + 1) = (50, 40) by decide +kernel) w h
theorem wk_l2 {w : Nat} (h : w ∈ m_wks) : m_lay (w + 2) = (50, 40) := (show ∀ w ∈ m_wks, m_lay (w + 2) = (50, 40) by decide +kernel) w h
theorem wk_l3 {w : Nat} (h : w ∈ m_wks) : m_lay (w + 3) = (50, 40) := (show ∀ w ∈ m_wks, m_lay (w + 3) = (50, 40) by decide +kernel) w h
theorem lg_l0 {g : Nat} (h : g ∈ m_lgs) : m_lay g = (3, 3) := (show ∀ g ∈ m_lgs, m_lay g = (3, 3) by decide +kernel) g h
theorem lg_l1 {g : Nat} (h : g ∈ m_lgs) : m_lay (g + 1) = (50, 8) := (show ∀ g ∈ m_lgs, m_lay (g + 1) = (50, 8) by decide +kernel) g h
theorem lg_l2 {g : Nat} (h : g ∈ m_lgs) : m_lay (g + 2) = (50, 8) := (show ∀ g ∈ m_lgs, m_lay (g + 2) = (50, 8) by decide +kernel) g h
theorem m_idx {k : Int32} {m : Nat} (h0 : ¬ k < 0) (h1 : k < nI m) (hm : m < 2 ^ 31) : vp_in k m := by
  obtain ⟨j, hj, rfl⟩ := nI_of h0
  exact vp_in_nI ((nI_ltI hj hm).mp h1) hm
theorem m_idx_le {k : Int32} {m M : Nat} (h0 : ¬ k < 0) (h1 : k < nI m) (hm : m ≤ M) (hM : M < 2 ^ 31) : vp_in k M := by
  obtain ⟨j, hj, rfl⟩ := nI_of h0
  exact vp_in_nI (by have := (nI_ltI hj (by omega)).mp h1; omega) hM
theorem kOK_lo {z : Int32} (h : kOK z) (c : z < -1) : False := by
  rcases h with rfl | ⟨a, ha, rfl⟩
  · exact absurd c (by decide)
  · have := Int32.lt_iff_toInt_lt.mp c
    rw [nI_toInt (by omega)] at this
    have e : (-1 : Int32).toInt = -1 := rfl
    omega
theorem kOK_hi {z : Int32} (h : kOK z) : z < 4 := by
  rcases h with rfl | ⟨a, ha, rfl⟩
  · decide
  · exact nI_lt (b := 4) ha (by decide)
def f_Week_answer (w c : Nat) (k x : Int32) (I : mI) : Int32 := (if k = (-1) then (if x = 0 then (nI c) else (if k < 0 then (-2) else (if k < (nI c) then (if x = 0 then (I (w + 1) (Int32.toNatClampNeg k)) else (if x = 1 then (I (w + 2) (Int32.toNatClampNeg k)) else (if x = 2 then (I (w + 3) (Int32.toNatClampNeg k)) else (-2)))) else (-2)))) else (if k < 0 then (-2) else (if k < (nI c) then (if x = 0 then (I (w + 1) (Int32.toNatClampNeg k)) else (if x = 1 then (I (w + 2) (Int32.toNatClampNeg k)) else (if x = 2 then (I (w + 3) (Int32.toNatClampNeg k)) else (-2)))) else (-2))))
theorem c_Week_answer {S : Nat × (Nat → Int32)} {d n : Nat} {I : mI} {J : mJ} {R : mR} {w : Nat} (hw : w ∈ m_wks) (hwr : wkR R w) (hwn : w + 3 < n) {k x : Int32} {c : Nat} (hcc : I w 0 = nI c) (hc : c ≤ 40) : RUN S d YWeek_answer [.ref w, .int k, .int x] I J R n (some (.int (f_Week_answer w c k x I))) I J R n := by
  show AW S _ YWeek_answer n n _ 0 [(0, .ref w), (1, .int k), (2, .int x)] [] I J R n
  refine a_iload_n 1 dWeek_answer_0 rfl rfl ?_
  refine a_iconst (v := -1) dWeek_answer_1 (by decide) ?_
  refine a_icmp_ne (tgt := 14) dWeek_answer_2 (by decide) (fun c2 => ?_) (fun c2 => ?_)
  · refine a_iload_n 1 dWeek_answer_14 rfl rfl ?_
    refine a_if_lt (tgt := 26) dWeek_answer_15 (by decide) (fun c15 => ?_) (fun c15 => ?_)
    · refine a_bipush (v := -2) dWeek_answer_26 (by decide) ?_
      exact a_iret dWeek_answer_28 rfl ⟨(by unfold f_Week_answer; rw [if_neg c2, if_pos c15]), rfl, rfl, rfl⟩
    · refine a_iload_n 1 dWeek_answer_18 rfl rfl ?_
      refine a_aload_n 0 dWeek_answer_19 rfl rfl ?_
      refine a_geti dWeek_answer_20 fl10_21 rfl (wk_l0 hw) (by omega) ?_
      rw [show I w 0 = (nI c) from hcc]
      refine a_icmp_lt (tgt := 29) dWeek_answer_23 (by decide) (fun c23 => ?_) (fun c23 => ?_)
      · refine a_iload_n 2 dWeek_answer_29 rfl rfl ?_
        by_cases hs0 : x = 0
        · refine a_tab (off := 26) (tgt := 56) dWeek_answer_30 hs0 (by decide) (by decide) (by decide) (by decide) ?_
          refine a_aload_n 0 dWeek_answer_56 rfl rfl ?_
          refine a_geta (r := (w + 1)) dWeek_answer_57 fl10_9 rfl (wk_l0 hw) (by omega) (hwr 0 (by decide)) ?_
          refine a_iload_n 1 dWeek_answer_60 rfl rfl ?_
          refine a_iald dWeek_answer_61 (wk_l1 hw) (by omega) (m_idx_le c15 c23 hc (by decide)) ?_
          exact a_iret dWeek_answer_62 rfl ⟨(by unfold f_Week_answer; rw [if_neg c2, if_neg c15, if_pos c23, if_pos hs0]), rfl, rfl, rfl⟩
        by_cases hs1 : x = 1
        · refine a_tab (off := 33) (tgt := 63) dWeek_answer_30 hs1 (by decide) (by decide) (by decide) (by decide) ?_
          refine a_aload_n 0 dWeek_answer_63 rfl rfl ?_
          refine a_geta (r := (w + 2)) dWeek_answer_64 fl10_15 rfl (wk_l0 hw) (by omega) (hwr 1 (by decide)) ?_
          refine a_iload_n 1 dWeek_answer_67 rfl rfl ?_
          refine a_iald dWeek_answer_68 (wk_l2 hw) (by omega) (m_idx_le c15 c23 hc (by decide)) ?_
          exact a_iret dWeek_answer_69 rfl ⟨(by unfold f_Week_answer; rw [if_neg c2, if_neg c15, if_pos c23, if_neg hs0, if_pos hs1]), rfl, rfl, rfl⟩
        by_cases hs2 : x = 2
        · refine a_tab (off := 40) (tgt := 70) dWeek_answer_30 hs2 (by decide) (by decide) (by decide) (by decide) ?_
          refine a_aload_n 0 dWeek_answer_70 rfl rfl ?_
          refine a_geta (r := (w + 3)) dWeek_answer_71 fl10_18 rfl (wk_l0 hw) (by omega) (hwr 2 (by decide)) ?_
          refine a_iload_n 1 dWeek_answer_74 rfl rfl ?_
          refine a_iald dWeek_answer_75 (wk_l3 hw) (by omega) (m_idx_le c15 c23 hc (by decide)) ?_
          exact a_iret dWeek_answer_76 rfl ⟨(by unfold f_Week_answer; rw [if_neg c2, if_neg c15, if_pos c23, if_neg hs0, if_neg hs1, if_pos hs2]), rfl, rfl, rfl⟩
        refine a_tableOut (tgt := 77) dWeek_answer_30 (m_swo0_2 hs0 hs1 hs2) (by decide) ?_
        refine a_bipush (v := -2) dWeek_answer_77 (by decide) ?_
        exact a_iret dWeek_answer_79 rfl ⟨(by unfold f_Week_answer; rw [if_neg c2, if_neg c15, if_pos c23, if_neg hs0, if_neg hs1, if_neg hs2]), rfl, rfl, rfl⟩
      · refine a_bipush (v := -2) dWeek_answer_26 (by decide) ?_
        exact a_iret dWeek_answer_28 rfl ⟨(by unfold f_Week_answer; rw [if_neg c2, if_neg c15, if_neg c23]), rfl, rfl, rfl⟩
  · refine a_iload_n 2 dWeek_answer_5 rfl rfl ?_
    refine a_if_ne (tgt := 14) dWeek_answer_6 (by decide) (fun c6 => ?_) (fun c6 => ?_)
    · refine a_iload_n 1 dWeek_answer_14 rfl rfl ?_
      refine a_if_lt (tgt := 26) dWeek_answer_15 (by decide) (fun c15 => ?_) (fun c15 => ?_)
      · refine a_bipush (v := -2) dWeek_answer_26 (by decide) ?_
        exact a_iret dWeek_answer_28 rfl ⟨(by unfold f_Week_answer; rw [if_pos c2, if_neg c6, if_pos c15]), rfl, rfl, rfl⟩
      · refine a_iload_n 1 dWeek_answer_18 rfl rfl ?_
        refine a_aload_n 0 dWeek_answer_19 rfl rfl ?_
        refine a_geti dWeek_answer_20 fl10_21 rfl (wk_l0 hw) (by omega) ?_
        rw [show I w 0 = (nI c) from hcc]
        refine a_icmp_lt (tgt := 29) dWeek_answer_23 (by decide) (fun c23 => ?_) (fun c23 => ?_)
        · refine a_iload_n 2 dWeek_answer_29 rfl rfl ?_
          by_cases hs0 : x = 0
          · refine a_tab (off := 26) (tgt := 56) dWeek_answer_30 hs0 (by decide) (by decide) (by decide) (by decide) ?_
            refine a_aload_n 0 dWeek_answer_56 rfl rfl ?_
            refine a_geta (r := (w + 1)) dWeek_answer_57 fl10_9 rfl (wk_l0 hw) (by omega) (hwr 0 (by decide)) ?_
            refine a_iload_n 1 dWeek_answer_60 rfl rfl ?_
            refine a_iald dWeek_answer_61 (wk_l1 hw) (by omega) (m_idx_le c15 c23 hc (by decide)) ?_
            exact a_iret dWeek_answer_62 rfl ⟨(by unfold f_Week_answer; rw [if_pos c2, if_neg c6, if_neg c15, if_pos c23, if_pos hs0]), rfl, rfl, rfl⟩
          by_cases hs1 : x = 1
          · refine a_tab (off := 33) (tgt := 63) dWeek_answer_30 hs1 (by decide) (by decide) (by decide) (by decide) ?_
            refine a_aload_n 0 dWeek_answer_63 rfl rfl ?_
            refine a_geta (r := (w + 2)) dWeek_answer_64 fl10_15 rfl (wk_l0 hw) (by omega) (hwr 1 (by decide)) ?_
            refine a_iload_n 1 dWeek_answer_67 rfl rfl ?_
            refine a_iald dWeek_answer_68 (wk_l2 hw) (by omega) (m_idx_le c15 c23 hc (by decide)) ?_
            exact a_iret dWeek_answer_69 rfl ⟨(by unfold f_Week_answer; rw [if_pos c2, if_neg c6, if_neg c15, if_pos c23, if_neg hs0, if_pos hs1]), rfl, rfl, rfl⟩
          by_cases hs2 : x = 2
          · refine a_tab (off := 40) (tgt := 70) dWeek_answer_30 hs2 (by decide) (by decide) (by decide) (by decide) ?_
            refine a_aload_n 0 dWeek_answer_70 rfl rfl ?_
            refine a_geta (r := (w + 3)) dWeek_answer_71 fl10_18 rfl (wk_l0 hw) (by omega) (hwr 2 (by decide)) ?_
            refine a_iload_n 1 dWeek_answer_74 rfl rfl ?_
            refine a_iald dWeek_answer_75 (wk_l3 hw) (by omega) (m_idx_le c15 c23 hc (by decide)) ?_
            exact a_iret dWeek_answer_76 rfl ⟨(by unfold f_Week_answer; rw [if_pos c2, if_neg c6, if_neg c15, if_pos c23, if_neg hs0, if_neg hs1, if_pos hs2]), rfl, rfl, rfl⟩
          refine a_tableOut (tgt := 77) dWeek_answer_30 (m_swo0_2 hs0 hs1 hs2) (by decide) ?_
          refine a_bipush (v := -2) dWeek_answer_77 (by decide) ?_
          exact a_iret dWeek_answer_79 rfl ⟨(by unfold f_Week_answer; rw [if_pos c2, if_neg c6, if_neg c15, if_pos c23, if_neg hs0, if_neg hs1, if_neg hs2]), rfl, rfl, rfl⟩
        · refine a_bipush (v := -2) dWeek_answer_26 (by decide) ?_
          exact a_iret dWeek_answer_28 rfl ⟨(by unfold f_Week_answer; rw [if_pos c2, if_neg c6, if_neg c15, if_neg c23]), rfl, rfl, rfl⟩
    · refine a_aload_n 0 dWeek_answer_9 rfl rfl ?_
      refine a_geti dWeek_answer_10 fl10_21 rfl (wk_l0 hw) (by omega) ?_
      rw [show I w 0 = (nI c) from hcc]
      exact a_iret dWeek_answer_13 rfl ⟨(by unfold f_Week_answer; rw [if_pos c2, if_pos c6]), rfl, rfl, rfl⟩
def f_Log_answer (g c : Nat) (k x : Int32) (I : mI) : Int32 := (if k = (-1) then (if x = 0 then (nI c) else (if k < 0 then (-2) else (if k < (nI c) then (if x = 0 then (I (g + 1) (Int32.toNatClampNeg k)) else (if x = 1 then (I (g + 2) (Int32.toNatClampNeg k)) else (-2))) else (-2)))) else (if k < 0 then (-2) else (if k < (nI c) then (if x = 0 then (I (g + 1) (Int32.toNatClampNeg k)) else (if x = 1 then (I (g + 2) (Int32.toNatClampNeg k)) else (-2))) else (-2))))
theorem c_Log_answer {S : Nat × (Nat → Int32)} {d n : Nat} {I : mI} {J : mJ} {R : mR} {g : Nat} (hg : g ∈ m_lgs) (hgr : lgR R g) (hgn : g + 2 < n) {k x : Int32} {c : Nat} (hcc : I g 0 = nI c) (hc : c ≤ 8) : RUN S d YLog_answer [.ref g, .int k, .int x] I J R n (some (.int (f_Log_answer g c k x I))) I J R n := by
  show AW S _ YLog_answer n n _ 0 [(0, .ref g), (1, .int k), (2, .int x)] [] I J R n
  refine a_iload_n 1 dLog_answer_0 rfl rfl ?_
  refine a_iconst (v := -1) dLog_answer_1 (by decide) ?_
  refine a_icmp_ne (tgt := 14) dLog_answer_2 (by decide) (fun c2 => ?_) (fun c2 => ?_)
  · refine a_iload_n 1 dLog_answer_14 rfl rfl ?_
    refine a_if_lt (tgt := 26) dLog_answer_15 (by decide) (fun c15 => ?_) (fun c15 => ?_)
    · refine a_bipush (v := -2) dLog_answer_26 (by decide) ?_
      exact a_iret dLog_answer_28 rfl ⟨(by unfold f_Log_answer; rw [if_neg c2, if_pos c15]), rfl, rfl, rfl⟩
    · refine a_iload_n 1 dLog_answer_18 rfl rfl ?_
      refine a_aload_n 0 dLog_answer_19 rfl rfl ?_
      refine a_geti dLog_answer_20 fl3_18 rfl (lg_l0 hg) (by omega) ?_
      rw [show I g 0 = (nI c) from hcc]
      refine a_icmp_lt (tgt := 29) dLog_answer_23 (by decide) (fun c23 => ?_) (fun c23 => ?_)
      · refine a_iload_n 2 dLog_answer_29 rfl rfl ?_
        refine a_if_ne (tgt := 40) dLog_answer_30 (by decide) (fun c30 => ?_) (fun c30 => ?_)
        · refine a_iload_n 2 dLog_answer_40 rfl rfl ?_
          refine a_iconst (v := 1) dLog_answer_41 (by decide) ?_
          refine a_icmp_ne (tgt := 54) dLog_answer_42 (by decide) (fun c42 => ?_) (fun c42 => ?_)
          · refine a_bipush (v := -2) dLog_answer_54 (by decide) ?_
            exact a_iret dLog_answer_56 rfl ⟨(by unfold f_Log_answer; rw [if_neg c2, if_neg c15, if_pos c23, if_neg c30, if_neg c42]), rfl, rfl, rfl⟩
          · refine a_aload_n 0 dLog_answer_45 rfl rfl ?_
            refine a_geta (r := (g + 2)) dLog_answer_46 fl3_15 rfl (lg_l0 hg) (by omega) (hgr 1 (by decide)) ?_
            refine a_iload_n 1 dLog_answer_49 rfl rfl ?_
            refine a_iald dLog_answer_50 (lg_l2 hg) (by omega) (m_idx_le c15 c23 hc (by decide)) ?_
            refine a_goto (tgt := 56) dLog_answer_51 (by decide) ?_
            exact a_iret dLog_answer_56 rfl ⟨(by unfold f_Log_answer; rw [if_neg c2, if_neg c15, if_pos c23, if_neg c30, if_pos c42]), rfl, rfl, rfl⟩
        · refine a_aload_n 0 dLog_answer_33 rfl rfl ?_
          refine a_geta (r := (g + 1)) dLog_answer_34 fl3_9 rfl (lg_l0 hg) (by omega) (hgr 0 (by decide)) ?_
          refine a_iload_n 1 dLog_answer_37 rfl rfl ?_
          refine a_iald dLog_answer_38 (lg_l1 hg) (by omega) (m_idx_le c15 c23 hc (by decide)) ?_
          exact a_iret dLog_answer_39 rfl ⟨(by unfold f_Log_answer; rw [if_neg c2, if_neg c15, if_pos c23, if_pos c30]), rfl, rfl, rfl⟩
      · refine a_bipush (v := -2) dLog_answer_26 (by decide) ?_
        exact a_iret dLog_answer_28 rfl ⟨(by unfold f_Log_answer; rw [if_neg c2, if_neg c15, if_neg c23]), rfl, rfl, rfl⟩
  · refine a_iload_n 2 dLog_answer_5 rfl rfl ?_
    refine a_if_ne (tgt := 14) dLog_answer_6 (by decide) (fun c6 => ?_) (fun c6 => ?_)
    · refine a_iload_n 1 dLog_answer_14 rfl rfl ?_
      refine a_if_lt (tgt := 26) dLog_answer_15 (by decide) (fun c15 => ?_) (fun c15 => ?_)
      · refine a_bipush (v := -2) dLog_answer_26 (by decide) ?_
        exact a_iret dLog_answer_28 rfl ⟨(by unfold f_Log_answer; rw [if_pos c2, if_neg c6, if_pos c15]), rfl, rfl, rfl⟩
      · refine a_iload_n 1 dLog_answer_18 rfl rfl ?_
        refine a_aload_n 0 dLog_answer_19 rfl rfl ?_
        refine a_geti dLog_answer_20 fl3_18 rfl (lg_l0 hg) (by omega) ?_
        rw [show I g 0 = (nI c) from hcc]
        refine a_icmp_lt (tgt := 29) dLog_answer_23 (by decide) (fun c23 => ?_) (fun c23 => ?_)
        · refine a_iload_n 2 dLog_answer_29 rfl rfl ?_
          refine a_if_ne (tgt := 40) dLog_answer_30 (by decide) (fun c30 => ?_) (fun c30 => ?_)
          · refine a_iload_n 2 dLog_answer_40 rfl rfl ?_
            refine a_iconst (v := 1) dLog_answer_41 (by decide) ?_
            refine a_icmp_ne (tgt := 54) dLog_answer_42 (by decide) (fun c42 => ?_) (fun c42 => ?_)
            · refine a_bipush (v := -2) dLog_answer_54 (by decide) ?_
              exact a_iret dLog_answer_56 rfl ⟨(by unfold f_Log_answer; rw [if_pos c2, if_neg c6, if_neg c15, if_pos c23, if_neg c30, if_neg c42]), rfl, rfl, rfl⟩
            · refine a_aload_n 0 dLog_answer_45 rfl rfl ?_
              refine a_geta (r := (g + 2)) dLog_answer_46 fl3_15 rfl (lg_l0 hg) (by omega) (hgr 1 (by decide)) ?_
              refine a_iload_n 1 dLog_answer_49 rfl rfl ?_
              refine a_iald dLog_answer_50 (lg_l2 hg) (by omega) (m_idx_le c15 c23 hc (by decide)) ?_
              refine a_goto (tgt := 56) dLog_answer_51 (by decide) ?_
              exact a_iret dLog_answer_56 rfl ⟨(by unfold f_Log_answer; rw [if_pos c2, if_neg c6, if_neg c15, if_pos c23, if_neg c30, if_pos c42]), rfl, rfl, rfl⟩
          · refine a_aload_n 0 dLog_answer_33 rfl rfl ?_
            refine a_geta (r := (g + 1)) dLog_answer_34 fl3_9 rfl (lg_l0 hg) (by omega) (hgr 0 (by decide)) ?_
            refine a_iload_n 1 dLog_answer_37 rfl rfl ?_
            refine a_iald dLog_answer_38 (lg_l1 hg) (by omega) (m_idx_le c15 c23 hc (by decide)) ?_
            exact a_iret dLog_answer_39 rfl ⟨(by unfold f_Log_answer; rw [if_pos c2, if_neg c6, if_neg c15, if_pos c23, if_pos c30]), rfl, rfl, rfl⟩
        · refine a_bipush (v := -2) dLog_answer_26 (by decide) ?_
          exact a_iret dLog_answer_28 rfl ⟨(by unfold f_Log_answer; rw [if_pos c2, if_neg c6, if_neg c15, if_neg c23]), rfl, rfl, rfl⟩
    · refine a_aload_n 0 dLog_answer_9 rfl rfl ?_
      refine a_geti dLog_answer_10 fl3_18 rfl (lg_l0 hg) (by omega) ?_
      rw [show I g 0 = (nI c) from hcc]
      exact a_iret dLog_answer_13 rfl ⟨(by unfold f_Log_answer; rw [if_pos c2, if_pos c6]), rfl, rfl, rfl⟩
theorem c_S_office0 {S : Nat × (Nat → Int32)} {d n : Nat} {I : mI} {J : mJ} {R : mR} (hn : 122 ≤ n) (hR : m_fin R) {x y : Int32} (h0 : f_of x (I 3 0) = 0) : RUN S (d + 2) YS_office [.ref 0, .int x, .int y] I J R n (some (.int (-2))) I J R n := by
  show AW S _ YS_office n n _ 0 [(0, .ref 0), (1, .int x), (2, .int y)] [] I J R n
  refine a_aload_n 0 dS_office_0 rfl rfl ?_
  refine a_geta (r := 1) dS_office_1 fl11_10 rfl ly_0 (by omega) (rf_0_0 hR) ?_
  refine a_iload_n 1 dS_office_4 rfl rfl ?_
  refine a_callV (Q' := m_res (some (.null)) I J R) (as := [.int x]) (st := []) dS_office_5 ml11_101 rfl (Nat.le_of_ble_eq_true rfl) ly_1 rfl rfl (by decide) (by omega) (Nat.le_of_ble_eq_true rfl) rfl (Nat.le_refl _) (Nat.le_refl _) (c_Told_officeAt0 hn hR h0) (m_go ?_)
  show AW _ _ _ _ _ _ _ _ [.null] _ _ _ _
  refine a_astore_nN (lv' := [(3, .null), (0, .ref 0), (1, .int x), (2, .int y)]) dS_office_8 rfl (by decide) rfl ?_
  refine a_aload_nN 0 dS_office_9 rfl rfl ?_
  refine a_ifnonnullN dS_office_10 ?_
  refine a_bipush (v := -2) dS_office_13 (by decide) ?_
  refine a_goto (tgt := 23) dS_office_15 (by decide) ?_
  exact a_iret dS_office_23 rfl ⟨rfl, rfl, rfl, rfl⟩
theorem c_S_officeN {S : Nat × (Nat → Int32)} {d n : Nat} {I : mI} {J : mJ} {R : mR} (hn : 122 ≤ n) (hR : m_fin R) {k o : Nat} (h1 : f_of (nI k) (I 3 0) = 1) (hk : k < 2) (hro : R 4 k = some o) (ho : o ∈ m_offs) (hr : offR R o) (hon : o + 8 < n) {w nh nl : Nat} (hw : w < 2 ^ 31) (hh : I o 0 = nI nh) (hnh : nh ≤ 6) (hl : I o 1 = nI nl) (hnl : nl ≤ 10)  : RUN S (d + 2) YS_office [.ref 0, .int (nI k), .int (nI w)] I J R n (some (.int (ansW nh nl (I o 0) (I o 1) (I o 2) (I (o + 1)) (I (o + 2)) (I (o + 3)) (I (o + 4)) (I (o + 6)) (I (o + 7)) (I (o + 8)) w))) I J R n := by
  show AW S _ YS_office n n _ 0 [(0, .ref 0), (1, .int (nI k)), (2, .int (nI w))] [] I J R n
  refine a_aload_n 0 dS_office_0 rfl rfl ?_
  refine a_geta (r := 1) dS_office_1 fl11_10 rfl ly_0 (by omega) (rf_0_0 hR) ?_
  refine a_iload_n 1 dS_office_4 rfl rfl ?_
  refine a_callV (Q' := m_res (some (.ref o)) I J R) (as := [.int (nI k)]) (st := []) dS_office_5 ml11_101 rfl (Nat.le_of_ble_eq_true rfl) ly_1 rfl rfl (by decide) (by omega) (Nat.le_of_ble_eq_true rfl) rfl (Nat.le_refl _) (Nat.le_refl _) (c_Told_officeAt1 hn hR h1 hk hro) (m_go ?_)
  show AW _ _ _ _ _ _ _ _ [.ref o] _ _ _ _
  refine a_astore_n (lv' := [(3, .ref o), (0, .ref 0), (1, .int (nI k)), (2, .int (nI w))]) dS_office_8 rfl (by decide) rfl ?_
  refine a_aload_n 0 dS_office_9 rfl rfl ?_
  refine a_ifnonnull (tgt := 18) dS_office_10 (by decide) ?_
  refine a_aload_n 0 dS_office_18 rfl rfl ?_
  refine a_iload_n 3 dS_office_19 rfl rfl ?_
  refine a_callV (Q' := m_res (some (.int (ansW nh nl (I o 0) (I o 1) (I o 2) (I (o + 1)) (I (o + 2)) (I (o + 3)) (I (o + 4)) (I (o + 6)) (I (o + 7)) (I (o + 8)) w))) I J R) (as := [.int (nI w)]) (st := []) dS_office_20 ml11_105 rfl (Nat.le_of_ble_eq_true rfl) (of_l0 ho) rfl rfl (by decide) (by omega) (Nat.le_of_ble_eq_true rfl) rfl (Nat.le_refl _) (Nat.le_refl _) (c_Office_answerN ho hr hon hw hh hnh hl hnl) (m_go ?_)
  show AW _ _ _ _ _ _ _ _ [.int (ansW nh nl (I o 0) (I o 1) (I o 2) (I (o + 1)) (I (o + 2)) (I (o + 3)) (I (o + 4)) (I (o + 6)) (I (o + 7)) (I (o + 8)) w)] _ _ _ _
  exact a_iret dS_office_23 rfl ⟨rfl, rfl, rfl, rfl⟩
theorem c_S_officeM {S : Nat × (Nat → Int32)} {d n : Nat} {I : mI} {J : mJ} {R : mR} (hn : 122 ≤ n) (hR : m_fin R) {k o : Nat} (h1 : f_of (nI k) (I 3 0) = 1) (hk : k < 2) (hro : R 4 k = some o) (ho : o ∈ m_offs) (hr : offR R o) (hon : o + 8 < n) {x : Int32} (hx : x < 0) : RUN S (d + 2) YS_office [.ref 0, .int (nI k), .int x] I J R n (some (.int (-2))) I J R n := by
  show AW S _ YS_office n n _ 0 [(0, .ref 0), (1, .int (nI k)), (2, .int x)] [] I J R n
  refine a_aload_n 0 dS_office_0 rfl rfl ?_
  refine a_geta (r := 1) dS_office_1 fl11_10 rfl ly_0 (by omega) (rf_0_0 hR) ?_
  refine a_iload_n 1 dS_office_4 rfl rfl ?_
  refine a_callV (Q' := m_res (some (.ref o)) I J R) (as := [.int (nI k)]) (st := []) dS_office_5 ml11_101 rfl (Nat.le_of_ble_eq_true rfl) ly_1 rfl rfl (by decide) (by omega) (Nat.le_of_ble_eq_true rfl) rfl (Nat.le_refl _) (Nat.le_refl _) (c_Told_officeAt1 hn hR h1 hk hro) (m_go ?_)
  show AW _ _ _ _ _ _ _ _ [.ref o] _ _ _ _
  refine a_astore_n (lv' := [(3, .ref o), (0, .ref 0), (1, .int (nI k)), (2, .int x)]) dS_office_8 rfl (by decide) rfl ?_
  refine a_aload_n 0 dS_office_9 rfl rfl ?_
  refine a_ifnonnull (tgt := 18) dS_office_10 (by decide) ?_
  refine a_aload_n 0 dS_office_18 rfl rfl ?_
  refine a_iload_n 3 dS_office_19 rfl rfl ?_
  refine a_callV (Q' := m_res (some (.int (-2))) I J R) (as := [.int x]) (st := []) dS_office_20 ml11_105 rfl (Nat.le_of_ble_eq_true rfl) (of_l0 ho) rfl rfl (by decide) (by omega) (Nat.le_of_ble_eq_true rfl) rfl (Nat.le_refl _) (Nat.le_refl _) (c_Office_answer0 ho hr hon hx) (m_go ?_)
  show AW _ _ _ _ _ _ _ _ [.int (-2)] _ _ _ _
  exact a_iret dS_office_23 rfl ⟨rfl, rfl, rfl, rfl⟩
theorem c_S_doing0 {S : Nat × (Nat → Int32)} {d n : Nat} {I : mI} {J : mJ} {R : mR} (hn : 122 ≤ n) (hR : m_fin R) {x y z : Int32} (h0 : f_of x (I 3 0) = 0) : RUN S (d + 2) YS_doing [.ref 0, .int x, .int y, .int z] I J R n (some (.int (-1000))) I J R n := by
  show AW S _ YS_doing n n _ 0 [(0, .ref 0), (1, .int x), (2, .int y), (3, .int z)] [] I J R n
  refine a_aload_n 0 dS_doing_0 rfl rfl ?_
  refine a_geta (r := 1) dS_doing_1 fl11_10 rfl ly_0 (by omega) (rf_0_0 hR) ?_
  refine a_iload_n 1 dS_doing_4 rfl rfl ?_
  refine a_callV (Q' := m_res (some (.null)) I J R) (as := [.int x]) (st := []) dS_doing_5 ml11_101 rfl (Nat.le_of_ble_eq_true rfl) ly_1 rfl rfl (by decide) (by omega) (Nat.le_of_ble_eq_true rfl) rfl (Nat.le_refl _) (Nat.le_refl _) (c_Told_officeAt0 hn hR h0) (m_go ?_)
  show AW _ _ _ _ _ _ _ _ [.null] _ _ _ _
  refine a_astoreN (lv' := [(4, .null), (0, .ref 0), (1, .int x), (2, .int y), (3, .int z)]) dS_doing_8 (by decide) rfl ?_
  refine a_aloadN 0 dS_doing_10 rfl ?_
  refine a_ifnullN (tgt := 34) dS_doing_12 (by decide) ?_
  refine a_sipush (v := -1000) dS_doing_34 (by decide) ?_
  exact a_iret dS_doing_37 rfl ⟨rfl, rfl, rfl, rfl⟩
theorem c_S_doing1 {S : Nat × (Nat → Int32)} {d n : Nat} {I : mI} {J : mJ} {R : mR} (hn : 122 ≤ n) (hR : m_fin R) {k o : Nat} (h1 : f_of (nI k) (I 3 0) = 1) (hk : k < 2) (hro : R 4 k = some o) (ho : o ∈ m_offs) (hr : offR R o) (hon : o + 8 < n){y z : Int32} (hy : f_of y (I o 1) = 0 ∨ z < -1 ∨ 4 ≤ z) : RUN S (d + 2) YS_doing [.ref 0, .int (nI k), .int y, .int z] I J R n (some (.int (-1000))) I J R n := by
  show AW S _ YS_doing n n _ 0 [(0, .ref 0), (1, .int (nI k)), (2, .int y), (3, .int z)] [] I J R n
  refine a_aload_n 0 dS_doing_0 rfl rfl ?_
  refine a_geta (r := 1) dS_doing_1 fl11_10 rfl ly_0 (by omega) (rf_0_0 hR) ?_
  refine a_iload_n 1 dS_doing_4 rfl rfl ?_
  refine a_callV (Q' := m_res (some (.ref o)) I J R) (as := [.int (nI k)]) (st := []) dS_doing_5 ml11_101 rfl (Nat.le_of_ble_eq_true rfl) ly_1 rfl rfl (by decide) (by omega) (Nat.le_of_ble_eq_true rfl) rfl (Nat.le_refl _) (Nat.le_refl _) (c_Told_officeAt1 hn hR h1 hk hro) (m_go ?_)
  show AW _ _ _ _ _ _ _ _ [.ref o] _ _ _ _
  refine a_astore (lv' := [(4, .ref o), (0, .ref 0), (1, .int (nI k)), (2, .int y), (3, .int z)]) dS_doing_8 (by decide) rfl ?_
  refine a_aload 0 dS_doing_10 rfl ?_
  refine a_ifnull dS_doing_12 ?_
  refine a_aload 0 dS_doing_15 rfl ?_
  refine a_iload_n 3 dS_doing_17 rfl rfl ?_
  refine a_callV (Q' := m_res (some (.int (f_of y (I o 1)))) I J R) (as := [.int y]) (st := []) dS_doing_18 ml11_111 rfl (Nat.le_of_ble_eq_true rfl) (of_l0 ho) rfl rfl (by decide) (by omega) (Nat.le_of_ble_eq_true rfl) rfl (Nat.le_refl _) (Nat.le_refl _) (c_Office_hasLetter ho hr hon) (m_go ?_)
  show AW _ _ _ _ _ _ _ _ [.int (f_of y (I o 1))] _ _ _ _
  refine a_if_eq (tgt := 34) dS_doing_21 (by decide) (fun c21 => ?_) (fun c21 => ?_)
  · refine a_sipush (v := -1000) dS_doing_34 (by decide) ?_
    exact a_iret dS_doing_37 rfl ⟨rfl, rfl, rfl, rfl⟩
  · refine a_iload_n 4 dS_doing_24 rfl rfl ?_
    refine a_iconst (v := -1) dS_doing_25 (by decide) ?_
    refine a_icmp_lt (tgt := 34) dS_doing_26 (by decide) (fun c26 => ?_) (fun c26 => ?_)
    · refine a_sipush (v := -1000) dS_doing_34 (by decide) ?_
      exact a_iret dS_doing_37 rfl ⟨rfl, rfl, rfl, rfl⟩
    · refine a_iload_n 4 dS_doing_29 rfl rfl ?_
      refine a_iconst (v := 4) dS_doing_30 (by decide) ?_
      refine a_icmp_lt (tgt := 38) dS_doing_31 (by decide) (fun c31 => ?_) (fun c31 => ?_)
      · refine a_aload 0 dS_doing_38 rfl ?_
        refine a_iload_n 3 dS_doing_40 rfl rfl ?_
        refine a_iload_n 4 dS_doing_41 rfl rfl ?_
        refine a_callV (Q' := m_res (some (.int (-1000))) I J R) (as := [.int y, .int z]) (st := []) dS_doing_42 ml11_115 rfl (Nat.le_of_ble_eq_true rfl) (of_l0 ho) rfl rfl (by decide) (by omega) (Nat.le_of_ble_eq_true rfl) rfl (Nat.le_refl _) (Nat.le_refl _) (by exfalso; rcases hy with h | h | h; exact c21 h; exact c26 h; exact absurd c31 (Int32.not_lt.mpr h)) (m_go ?_)
        show AW _ _ _ _ _ _ _ _ [.int (-1000)] _ _ _ _
        exact a_iret dS_doing_45 rfl ⟨rfl, rfl, rfl, rfl⟩
      · refine a_sipush (v := -1000) dS_doing_34 (by decide) ?_
        exact a_iret dS_doing_37 rfl ⟨rfl, rfl, rfl, rfl⟩
theorem c_S_doing2 {S : Nat × (Nat → Int32)} {d n : Nat} {I : mI} {J : mJ} {R : mR} (hn : 122 ≤ n) (hR : m_fin R) {k o : Nat} (h1 : f_of (nI k) (I 3 0) = 1) (hk : k < 2) (hro : R 4 k = some o) (ho : o ∈ m_offs) (hr : offR R o) (hon : o + 8 < n){l q : Nat} {z : Int32} (hl : l < 10) (hy : f_of (nI l) (I o 1) = 1) (hz : kOK z) (hkd : I (o + 3) l = nI q) (hq : q < 4) : RUN S (d + 2) YS_doing [.ref 0, .int (nI k), .int (nI l), .int z] I J R n (some (.int (dsO I o l z))) I J R n := by
  show AW S _ YS_doing n n _ 0 [(0, .ref 0), (1, .int (nI k)), (2, .int (nI l)), (3, .int z)] [] I J R n
  refine a_aload_n 0 dS_doing_0 rfl rfl ?_
  refine a_geta (r := 1) dS_doing_1 fl11_10 rfl ly_0 (by omega) (rf_0_0 hR) ?_
  refine a_iload_n 1 dS_doing_4 rfl rfl ?_
  refine a_callV (Q' := m_res (some (.ref o)) I J R) (as := [.int (nI k)]) (st := []) dS_doing_5 ml11_101 rfl (Nat.le_of_ble_eq_true rfl) ly_1 rfl rfl (by decide) (by omega) (Nat.le_of_ble_eq_true rfl) rfl (Nat.le_refl _) (Nat.le_refl _) (c_Told_officeAt1 hn hR h1 hk hro) (m_go ?_)
  show AW _ _ _ _ _ _ _ _ [.ref o] _ _ _ _
  refine a_astore (lv' := [(4, .ref o), (0, .ref 0), (1, .int (nI k)), (2, .int (nI l)), (3, .int z)]) dS_doing_8 (by decide) rfl ?_
  refine a_aload 0 dS_doing_10 rfl ?_
  refine a_ifnull dS_doing_12 ?_
  refine a_aload 0 dS_doing_15 rfl ?_
  refine a_iload_n 3 dS_doing_17 rfl rfl ?_
  refine a_callV (Q' := m_res (some (.int (f_of (nI l) (I o 1)))) I J R) (as := [.int (nI l)]) (st := []) dS_doing_18 ml11_111 rfl (Nat.le_of_ble_eq_true rfl) (of_l0 ho) rfl rfl (by decide) (by omega) (Nat.le_of_ble_eq_true rfl) rfl (Nat.le_refl _) (Nat.le_refl _) (c_Office_hasLetter ho hr hon) (m_go ?_)
  show AW _ _ _ _ _ _ _ _ [.int (f_of (nI l) (I o 1))] _ _ _ _
  refine a_if_eq (tgt := 34) dS_doing_21 (by decide) (fun c => False.elim (by rw [hy] at c; exact absurd c (by decide))) (fun _ => ?_)
  refine a_iload_n 4 dS_doing_24 rfl rfl ?_
  refine a_iconst (v := -1) dS_doing_25 (by decide) ?_
  refine a_icmp_lt (tgt := 34) dS_doing_26 (by decide) (fun c => False.elim (kOK_lo hz c)) (fun _ => ?_)
  refine a_iload_n 4 dS_doing_29 rfl rfl ?_
  refine a_iconst (v := 4) dS_doing_30 (by decide) ?_
  refine a_icmp_lt (tgt := 38) dS_doing_31 (by decide) (fun _ => ?_) (fun c => False.elim (c (kOK_hi hz)))
  refine a_aload 0 dS_doing_38 rfl ?_
  refine a_iload_n 3 dS_doing_40 rfl rfl ?_
  refine a_iload_n 4 dS_doing_41 rfl rfl ?_
  refine a_callV (Q' := m_res (some (.int (dsO I o l z))) I J R) (as := [.int (nI l), .int z]) (st := []) dS_doing_42 ml11_115 rfl (Nat.le_of_ble_eq_true rfl) (of_l0 ho) rfl rfl (by decide) (by omega) (Nat.le_of_ble_eq_true rfl) rfl (Nat.le_refl _) (Nat.le_refl _) (c_Office_does ho hr hon hl hkd hq hz) (m_go ?_)
  show AW _ _ _ _ _ _ _ _ [.int (dsO I o l z)] _ _ _ _
  exact a_iret dS_doing_45 rfl ⟨rfl, rfl, rfl, rfl⟩
theorem c_S_deed0 {S : Nat × (Nat → Int32)} {d n : Nat} {I : mI} {J : mJ} {R : mR} (hn : 122 ≤ n) (hR : m_fin R) {x y z : Int32} (h0 : f_of x (I 3 1) = 0) : RUN S (d + 2) YS_deed [.ref 0, .int x, .int y, .int z] I J R n (some (.int (-2))) I J R n := by
  show AW S _ YS_deed n n _ 0 [(0, .ref 0), (1, .int x), (2, .int y), (3, .int z)] [] I J R n
  refine a_aload_n 0 dS_deed_0 rfl rfl ?_
  refine a_geta (r := 1) dS_deed_1 fl11_10 rfl ly_0 (by omega) (rf_0_0 hR) ?_
  refine a_iload_n 1 dS_deed_4 rfl rfl ?_
  refine a_callV (Q' := m_res (some (.null)) I J R) (as := [.int x]) (st := []) dS_deed_5 ml11_119 rfl (Nat.le_of_ble_eq_true rfl) ly_1 rfl rfl (by decide) (by omega) (Nat.le_of_ble_eq_true rfl) rfl (Nat.le_refl _) (Nat.le_refl _) (c_Told_weekAt0 hn hR h0) (m_go ?_)
  show AW _ _ _ _ _ _ _ _ [.null] _ _ _ _
  refine a_astoreN (lv' := [(4, .null), (0, .ref 0), (1, .int x), (2, .int y), (3, .int z)]) dS_deed_8 (by decide) rfl ?_
  refine a_aloadN 0 dS_deed_10 rfl ?_
  refine a_ifnonnullN dS_deed_12 ?_
  refine a_bipush (v := -2) dS_deed_15 (by decide) ?_
  refine a_goto (tgt := 27) dS_deed_17 (by decide) ?_
  exact a_iret dS_deed_27 rfl ⟨rfl, rfl, rfl, rfl⟩
theorem c_S_deed1 {S : Nat × (Nat → Int32)} {d n : Nat} {I : mI} {J : mJ} {R : mR} (hn : 122 ≤ n) (hR : m_fin R) {w : Nat} (hw : w ∈ m_wks) (hwr : wkR R w) (hwn : w + 3 < n) {k c : Nat} {y z : Int32} (h1 : f_of (nI k) (I 3 1) = 1) (hk : k < 2) (hro : R 23 k = some w) (hcc : I w 0 = nI c) (hc : c ≤ 40) : RUN S (d + 2) YS_deed [.ref 0, .int (nI k), .int y, .int z] I J R n (some (.int (f_Week_answer w c y z I))) I J R n := by
  show AW S _ YS_deed n n _ 0 [(0, .ref 0), (1, .int (nI k)), (2, .int y), (3, .int z)] [] I J R n
  refine a_aload_n 0 dS_deed_0 rfl rfl ?_
  refine a_geta (r := 1) dS_deed_1 fl11_10 rfl ly_0 (by omega) (rf_0_0 hR) ?_
  refine a_iload_n 1 dS_deed_4 rfl rfl ?_
  refine a_callV (Q' := m_res (some (.ref w)) I J R) (as := [.int (nI k)]) (st := []) dS_deed_5 ml11_119 rfl (Nat.le_of_ble_eq_true rfl) ly_1 rfl rfl (by decide) (by omega) (Nat.le_of_ble_eq_true rfl) rfl (Nat.le_refl _) (Nat.le_refl _) (c_Told_weekAt1 hn hR h1 hk hro) (m_go ?_)
  show AW _ _ _ _ _ _ _ _ [.ref w] _ _ _ _
  refine a_astore (lv' := [(4, .ref w), (0, .ref 0), (1, .int (nI k)), (2, .int y), (3, .int z)]) dS_deed_8 (by decide) rfl ?_
  refine a_aload 0 dS_deed_10 rfl ?_
  refine a_ifnonnull (tgt := 20) dS_deed_12 (by decide) ?_
  refine a_aload 0 dS_deed_20 rfl ?_
  refine a_iload_n 3 dS_deed_22 rfl rfl ?_
  refine a_iload_n 4 dS_deed_23 rfl rfl ?_
  refine a_callV (Q' := m_res (some (.int (f_Week_answer w c y z I))) I J R) (as := [.int y, .int z]) (st := []) dS_deed_24 ml11_123 rfl (Nat.le_of_ble_eq_true rfl) (wk_l0 hw) rfl rfl (by decide) (by omega) (Nat.le_of_ble_eq_true rfl) rfl (Nat.le_refl _) (Nat.le_refl _) (c_Week_answer hw hwr hwn hcc hc) (m_go ?_)
  show AW _ _ _ _ _ _ _ _ [.int (f_Week_answer w c y z I)] _ _ _ _
  exact a_iret dS_deed_27 rfl ⟨rfl, rfl, rfl, rfl⟩
theorem c_S_fact0 {S : Nat × (Nat → Int32)} {d n : Nat} {I : mI} {J : mJ} {R : mR} (hn : 122 ≤ n) (hR : m_fin R) {x y z : Int32} (h0 : f_of x (I 3 2) = 0) : RUN S (d + 2) YS_fact [.ref 0, .int x, .int y, .int z] I J R n (some (.int (-2))) I J R n := by
  show AW S _ YS_fact n n _ 0 [(0, .ref 0), (1, .int x), (2, .int y), (3, .int z)] [] I J R n
  refine a_aload_n 0 dS_fact_0 rfl rfl ?_
  refine a_geta (r := 1) dS_fact_1 fl11_10 rfl ly_0 (by omega) (rf_0_0 hR) ?_
  refine a_iload_n 1 dS_fact_4 rfl rfl ?_
  refine a_callV (Q' := m_res (some (.null)) I J R) (as := [.int x]) (st := []) dS_fact_5 ml11_189 rfl (Nat.le_of_ble_eq_true rfl) ly_1 rfl rfl (by decide) (by omega) (Nat.le_of_ble_eq_true rfl) rfl (Nat.le_refl _) (Nat.le_refl _) (c_Told_logAt0 hn hR h0) (m_go ?_)
  show AW _ _ _ _ _ _ _ _ [.null] _ _ _ _
  refine a_astoreN (lv' := [(4, .null), (0, .ref 0), (1, .int x), (2, .int y), (3, .int z)]) dS_fact_8 (by decide) rfl ?_
  refine a_aloadN 0 dS_fact_10 rfl ?_
  refine a_ifnonnullN dS_fact_12 ?_
  refine a_bipush (v := -2) dS_fact_15 (by decide) ?_
  refine a_goto (tgt := 27) dS_fact_17 (by decide) ?_
  exact a_iret dS_fact_27 rfl ⟨rfl, rfl, rfl, rfl⟩
theorem c_S_fact1 {S : Nat × (Nat → Int32)} {d n : Nat} {I : mI} {J : mJ} {R : mR} (hn : 122 ≤ n) (hR : m_fin R) {g : Nat} (hg : g ∈ m_lgs) (hgr : lgR R g) (hgn : g + 2 < n) {k c : Nat} {y z : Int32} (h1 : f_of (nI k) (I 3 2) = 1) (hk : k < 2) (hro : R 32 k = some g) (hcc : I g 0 = nI c) (hc : c ≤ 8) : RUN S (d + 2) YS_fact [.ref 0, .int (nI k), .int y, .int z] I J R n (some (.int (f_Log_answer g c y z I))) I J R n := by
  show AW S _ YS_fact n n _ 0 [(0, .ref 0), (1, .int (nI k)), (2, .int y), (3, .int z)] [] I J R n
  refine a_aload_n 0 dS_fact_0 rfl rfl ?_
  refine a_geta (r := 1) dS_fact_1 fl11_10 rfl ly_0 (by omega) (rf_0_0 hR) ?_
  refine a_iload_n 1 dS_fact_4 rfl rfl ?_
  refine a_callV (Q' := m_res (some (.ref g)) I J R) (as := [.int (nI k)]) (st := []) dS_fact_5 ml11_189 rfl (Nat.le_of_ble_eq_true rfl) ly_1 rfl rfl (by decide) (by omega) (Nat.le_of_ble_eq_true rfl) rfl (Nat.le_refl _) (Nat.le_refl _) (c_Told_logAt1 hn hR h1 hk hro) (m_go ?_)
  show AW _ _ _ _ _ _ _ _ [.ref g] _ _ _ _
  refine a_astore (lv' := [(4, .ref g), (0, .ref 0), (1, .int (nI k)), (2, .int y), (3, .int z)]) dS_fact_8 (by decide) rfl ?_
  refine a_aload 0 dS_fact_10 rfl ?_
  refine a_ifnonnull (tgt := 20) dS_fact_12 (by decide) ?_
  refine a_aload 0 dS_fact_20 rfl ?_
  refine a_iload_n 3 dS_fact_22 rfl rfl ?_
  refine a_iload_n 4 dS_fact_23 rfl rfl ?_
  refine a_callV (Q' := m_res (some (.int (f_Log_answer g c y z I))) I J R) (as := [.int y, .int z]) (st := []) dS_fact_24 ml11_193 rfl (Nat.le_of_ble_eq_true rfl) (lg_l0 hg) rfl rfl (by decide) (by omega) (Nat.le_of_ble_eq_true rfl) rfl (Nat.le_refl _) (Nat.le_refl _) (c_Log_answer hg hgr hgn hcc hc) (m_go ?_)
  show AW _ _ _ _ _ _ _ _ [.int (f_Log_answer g c y z I)] _ _ _ _
  exact a_iret dS_fact_27 rfl ⟨rfl, rfl, rfl, rfl⟩
def f_S_fault (x : Int32) (I : mI) : Int32 := (if x = 0 then (I 1 2) else (if x = 1 then (I 1 3) else (-1)))
theorem c_S_fault {S : Nat × (Nat → Int32)} {d n : Nat} {I : mI} {J : mJ} {R : mR} (hn : 122 ≤ n) (hR : m_fin R) {x : Int32} : RUN S d YS_fault [.ref 0, .int x] I J R n (some (.int (f_S_fault x I))) I J R n := by
  show AW S _ YS_fault n n _ 0 [(0, .ref 0), (1, .int x)] [] I J R n
  refine a_iload_n 1 dS_fault_0 rfl rfl ?_
  refine a_if_ne (tgt := 12) dS_fault_1 (by decide) (fun c1 => ?_) (fun c1 => ?_)
  · refine a_iload_n 1 dS_fault_12 rfl rfl ?_
    refine a_iconst (v := 1) dS_fault_13 (by decide) ?_
    refine a_icmp_ne (tgt := 27) dS_fault_14 (by decide) (fun c14 => ?_) (fun c14 => ?_)
    · refine a_iconst (v := -1) dS_fault_27 (by decide) ?_
      exact a_iret dS_fault_28 rfl ⟨(by unfold f_S_fault; rw [if_neg c1, if_neg c14]), rfl, rfl, rfl⟩
    · refine a_aload_n 0 dS_fault_17 rfl rfl ?_
      refine a_geta (r := 1) dS_fault_18 fl11_10 rfl ly_0 (by omega) (rf_0_0 hR) ?_
      refine a_geti dS_fault_21 fl11_80 rfl ly_1 (by omega) ?_
      refine a_goto (tgt := 28) dS_fault_24 (by decide) ?_
      exact a_iret dS_fault_28 rfl ⟨(by unfold f_S_fault; rw [if_neg c1, if_pos c14]), rfl, rfl, rfl⟩
  · refine a_aload_n 0 dS_fault_4 rfl rfl ?_
    refine a_geta (r := 1) dS_fault_5 fl11_10 rfl ly_0 (by omega) (rf_0_0 hR) ?_
    refine a_geti dS_fault_8 fl11_77 rfl ly_1 (by omega) ?_
    exact a_iret dS_fault_11 rfl ⟨(by unfold f_S_fault; rw [if_pos c1]), rfl, rfl, rfl⟩
def f_S_count (x : Int32) (I : mI) : Int32 := (if x < 0 then (-2) else (if x < 3 then (I 3 (Int32.toNatClampNeg x)) else (-2)))
theorem c_S_count {S : Nat × (Nat → Int32)} {d n : Nat} {I : mI} {J : mJ} {R : mR} (hn : 122 ≤ n) (hR : m_fin R) {x : Int32} : RUN S d YS_count [.ref 0, .int x] I J R n (some (.int (f_S_count x I))) I J R n := by
  show AW S _ YS_count n n _ 0 [(0, .ref 0), (1, .int x)] [] I J R n
  refine a_iload_n 1 dS_count_0 rfl rfl ?_
  refine a_if_lt (tgt := 9) dS_count_1 (by decide) (fun c1 => ?_) (fun c1 => ?_)
  · refine a_bipush (v := -2) dS_count_9 (by decide) ?_
    refine a_goto (tgt := 23) dS_count_11 (by decide) ?_
    exact a_iret dS_count_23 rfl ⟨(by unfold f_S_count; rw [if_pos c1]), rfl, rfl, rfl⟩
  · refine a_iload_n 1 dS_count_4 rfl rfl ?_
    refine a_iconst (v := 3) dS_count_5 (by decide) ?_
    refine a_icmp_lt (tgt := 14) dS_count_6 (by decide) (fun c6 => ?_) (fun c6 => ?_)
    · refine a_aload_n 0 dS_count_14 rfl rfl ?_
      refine a_geta (r := 1) dS_count_15 fl11_10 rfl ly_0 (by omega) (rf_0_0 hR) ?_
      refine a_geta (r := 3) dS_count_18 fl11_285 rfl ly_1 (by omega) (rf_1_4 hR) ?_
      refine a_iload_n 1 dS_count_21 rfl rfl ?_
      refine a_iald dS_count_22 ly_3 (by omega) (m_idx c1 (show x < nI 3 from c6) (by decide)) ?_
      exact a_iret dS_count_23 rfl ⟨(by unfold f_S_count; rw [if_neg c1, if_pos c6]), rfl, rfl, rfl⟩
    · refine a_bipush (v := -2) dS_count_9 (by decide) ?_
      refine a_goto (tgt := 23) dS_count_11 (by decide) ?_
      exact a_iret dS_count_23 rfl ⟨(by unfold f_S_count; rw [if_neg c1, if_neg c6]), rfl, rfl, rfl⟩
def f_S_end (x : Int32) (I : mI) : Int32 := (if x < 0 then (-1) else (if x ≤ (I 1 1) then x else (-1)))
def gf_S_end (x : Int32) (I : mI) : mI := (if x < 0 then I else (if x ≤ (I 1 1) then (m_up I 1 1 x) else I))
theorem c_S_end {S : Nat × (Nat → Int32)} {d n : Nat} {I : mI} {J : mJ} {R : mR} (hn : 122 ≤ n) (hR : m_fin R) {x : Int32} : RUN S d YS_end [.ref 0, .int x] I J R n (some (.int (f_S_end x I))) (gf_S_end x I) J R n := by
  show AW S _ YS_end n n _ 0 [(0, .ref 0), (1, .int x)] [] I J R n
  refine a_iload_n 1 dS_end_0 rfl rfl ?_
  refine a_if_lt (tgt := 15) dS_end_1 (by decide) (fun c1 => ?_) (fun c1 => ?_)
  · refine a_iconst (v := -1) dS_end_15 (by decide) ?_
    exact a_iret dS_end_16 rfl ⟨(by unfold f_S_end; rw [if_pos c1]), (by unfold gf_S_end; rw [if_pos c1]), rfl, rfl⟩
  · refine a_iload_n 1 dS_end_4 rfl rfl ?_
    refine a_aload_n 0 dS_end_5 rfl rfl ?_
    refine a_geta (r := 1) dS_end_6 fl11_10 rfl ly_0 (by omega) (rf_0_0 hR) ?_
    refine a_geti dS_end_9 fl11_69 rfl ly_1 (by omega) ?_
    refine a_icmp_le (tgt := 17) dS_end_12 (by decide) (fun c12 => ?_) (fun c12 => ?_)
    · refine a_aload_n 0 dS_end_17 rfl rfl ?_
      refine a_geta (r := 1) dS_end_18 fl11_10 rfl ly_0 (by omega) (rf_0_0 hR) ?_
      refine a_iload_n 1 dS_end_21 rfl rfl ?_
      refine a_puti dS_end_22 fl11_69 rfl ly_1 (by omega) ?_
      refine a_iload_n 1 dS_end_25 rfl rfl ?_
      exact a_iret dS_end_26 rfl ⟨(by unfold f_S_end; rw [if_neg c1, if_pos c12]), (by unfold gf_S_end; rw [if_neg c1, if_pos c12]), rfl, rfl⟩
    · refine a_iconst (v := -1) dS_end_15 (by decide) ?_
      exact a_iret dS_end_16 rfl ⟨(by unfold f_S_end; rw [if_neg c1, if_neg c12]), (by unfold gf_S_end; rw [if_neg c1, if_neg c12]), rfl, rfl⟩
