theorem f_in_nz {x : Int32} {c : Nat} (hc : c < 2 ^ 31) (h : ¬ f_in x 0 (nI c - 1) = 0) : ∃ j, j < c ∧ x = nI j := by
  rw [f_in_of hc] at h
  rcases f_of_01 x (nI c) with e | e
  · exact absurd e h
  · exact f_of_1 hc e
theorem f_in_n0 {j c : Nat} (hj : j < 2 ^ 31) (hc : c < 2 ^ 31) : f_in (nI j) 0 (nI c - 1) = 0 ↔ c ≤ j := by rw [f_in_of hc, f_of_z hj hc]
theorem f_in_l2 {x : Int32} (h : ¬ f_in x 0 2 = 0) : ∃ j, j < 3 ∧ x = nI j := f_in_nz (c := 3) (by decide) h
theorem f_in_l1 {x : Int32} (h : ¬ f_in x 0 1 = 0) : ∃ j, j < 2 ∧ x = nI j := f_in_nz (c := 2) (by decide) h
theorem c_M_deeds {S : Nat × (Nat → Int32)} {d n : Nat} {I : mI} {J : mJ} {R : mR} (hn : 122 ≤ n) (hR : m_fin R) {kw : Nat} (hkw : I 95 31 = nI kw) (hw7 : kw < 8)  : RUN S d YM_deeds [.ref 95] I J R n (some (.int (I 102 (121 * kw)))) I J R n := by
  show AW S _ YM_deeds n n _ 0 [(0, .ref 95)] [] I J R n
  refine a_aload_n 0 dM_deeds_0 rfl rfl ?_
  refine a_geta (r := 102) dM_deeds_1 fl12_29 rfl ly_95 (by omega) (rf_95_7 hR) ?_
  refine a_bipushN (a := 121) dM_deeds_4 (by decide) ?_
  refine a_aload_n 0 dM_deeds_6 rfl rfl ?_
  refine a_geti dM_deeds_7 fl12_286 rfl ly_95 (by omega) ?_
  rw [show I 95 31 = (nI kw) from hkw]
  refine a_imulN (a := 121) (b := kw) dM_deeds_10 ?_
  refine a_ialdN (a := (121 * kw)) dM_deeds_11 ly_102 (by omega) (by omega) (by decide) ?_
  exact a_iret dM_deeds_12 rfl ⟨rfl, rfl, rfl, rfl⟩
theorem c_M_deedOf {S : Nat × (Nat → Int32)} {d n : Nat} {I : mI} {J : mJ} {R : mR} (hn : 122 ≤ n) (hR : m_fin R) {kw : Nat} (hkw : I 95 31 = nI kw) (hw7 : kw < 2) {k u : Nat} (hk : k < 40) (hu : u < 3) : RUN S d YM_deedOf [.ref 95, .int (nI k), .int (nI u)] I J R n (some (.int (I 102 (121 * kw + 1 + 3 * k + u)))) I J R n := by
  show AW S _ YM_deedOf n n _ 0 [(0, .ref 95), (1, .int (nI k)), (2, .int (nI u))] [] I J R n
  refine a_aload_n 0 dM_deedOf_0 rfl rfl ?_
  refine a_geta (r := 102) dM_deedOf_1 fl12_29 rfl ly_95 (by omega) (rf_95_7 hR) ?_
  refine a_bipushN (a := 121) dM_deedOf_4 (by decide) ?_
  refine a_aload_n 0 dM_deedOf_6 rfl rfl ?_
  refine a_geti dM_deedOf_7 fl12_286 rfl ly_95 (by omega) ?_
  rw [show I 95 31 = (nI kw) from hkw]
  refine a_imulN (a := 121) (b := kw) dM_deedOf_10 ?_
  refine a_iconstN (a := 1) dM_deedOf_11 (by decide) ?_
  refine a_iaddN (a := (121 * kw)) (b := 1) dM_deedOf_12 ?_
  refine a_iconstN (a := 3) dM_deedOf_13 (by decide) ?_
  refine a_iload_n 1 dM_deedOf_14 rfl rfl ?_
  refine a_imulN (a := 3) (b := k) dM_deedOf_15 ?_
  refine a_iaddN (a := ((121 * kw) + 1)) (b := (3 * k)) dM_deedOf_16 ?_
  refine a_iload_n 2 dM_deedOf_17 rfl rfl ?_
  refine a_iaddN (a := (((121 * kw) + 1) + (3 * k))) (b := u) dM_deedOf_18 ?_
  refine a_ialdN (a := ((((121 * kw) + 1) + (3 * k)) + u)) dM_deedOf_19 ly_102 (by omega) (by omega) (by decide) ?_
  exact a_iret dM_deedOf_20 rfl ⟨rfl, rfl, rfl, rfl⟩
theorem c_M_facts {S : Nat × (Nat → Int32)} {d n : Nat} {I : mI} {J : mJ} {R : mR} (hn : 122 ≤ n) (hR : m_fin R) {kg : Nat} (hkg : I 95 47 = nI kg) (hg7 : kg < 2)  : RUN S d YM_facts [.ref 95] I J R n (some (.int (I 103 (17 * kg)))) I J R n := by
  show AW S _ YM_facts n n _ 0 [(0, .ref 95)] [] I J R n
  refine a_aload_n 0 dM_facts_0 rfl rfl ?_
  refine a_geta (r := 103) dM_facts_1 fl12_32 rfl ly_95 (by omega) (rf_95_8 hR) ?_
  refine a_bipushN (a := 17) dM_facts_4 (by decide) ?_
  refine a_aload_n 0 dM_facts_6 rfl rfl ?_
  refine a_geti dM_facts_7 fl12_432 rfl ly_95 (by omega) ?_
  rw [show I 95 47 = (nI kg) from hkg]
  refine a_imulN (a := 17) (b := kg) dM_facts_10 ?_
  refine a_ialdN (a := (17 * kg)) dM_facts_11 ly_103 (by omega) (by omega) (by decide) ?_
  exact a_iret dM_facts_12 rfl ⟨rfl, rfl, rfl, rfl⟩
theorem c_M_factOf {S : Nat × (Nat → Int32)} {d n : Nat} {I : mI} {J : mJ} {R : mR} (hn : 122 ≤ n) (hR : m_fin R) {kg : Nat} (hkg : I 95 47 = nI kg) (hg7 : kg < 2) {k u : Nat} (hk : k < 8) (hu : u < 2) : RUN S d YM_factOf [.ref 95, .int (nI k), .int (nI u)] I J R n (some (.int (I 103 (17 * kg + 1 + 2 * k + u)))) I J R n := by
  show AW S _ YM_factOf n n _ 0 [(0, .ref 95), (1, .int (nI k)), (2, .int (nI u))] [] I J R n
  refine a_aload_n 0 dM_factOf_0 rfl rfl ?_
  refine a_geta (r := 103) dM_factOf_1 fl12_32 rfl ly_95 (by omega) (rf_95_8 hR) ?_
  refine a_bipushN (a := 17) dM_factOf_4 (by decide) ?_
  refine a_aload_n 0 dM_factOf_6 rfl rfl ?_
  refine a_geti dM_factOf_7 fl12_432 rfl ly_95 (by omega) ?_
  rw [show I 95 47 = (nI kg) from hkg]
  refine a_imulN (a := 17) (b := kg) dM_factOf_10 ?_
  refine a_iconstN (a := 1) dM_factOf_11 (by decide) ?_
  refine a_iaddN (a := (17 * kg)) (b := 1) dM_factOf_12 ?_
  refine a_iconstN (a := 2) dM_factOf_13 (by decide) ?_
  refine a_iload_n 1 dM_factOf_14 rfl rfl ?_
  refine a_imulN (a := 2) (b := k) dM_factOf_15 ?_
  refine a_iaddN (a := ((17 * kg) + 1)) (b := (2 * k)) dM_factOf_16 ?_
  refine a_iload_n 2 dM_factOf_17 rfl rfl ?_
  refine a_iaddN (a := (((17 * kg) + 1) + (2 * k))) (b := u) dM_factOf_18 ?_
  refine a_ialdN (a := ((((17 * kg) + 1) + (2 * k)) + u)) dM_factOf_19 ly_103 (by omega) (by omega) (by decide) ?_
  exact a_iret dM_factOf_20 rfl ⟨rfl, rfl, rfl, rfl⟩
theorem c_M_hasWeek {S : Nat × (Nat → Int32)} {d n : Nat} {I : mI} {J : mJ} {R : mR} (hn : 122 ≤ n) (hR : m_fin R) {k : Int32} : RUN S (d + 2) YM_hasWeek [.ref 95, .int k] I J R n (some (.int (f_in k 0 (I 100 1 - 1)))) (m_up I 95 31 k) J R n := by
  show AW S _ YM_hasWeek n n _ 0 [(0, .ref 95), (1, .int k)] [] I J R n
  refine a_aload_n 0 dM_hasWeek_0 rfl rfl ?_
  refine a_iload_n 1 dM_hasWeek_1 rfl rfl ?_
  refine a_puti dM_hasWeek_2 fl12_286 rfl ly_95 (by omega) ?_
  refine a_aload_n 0 dM_hasWeek_5 rfl rfl ?_
  refine a_iconstN (a := 1) dM_hasWeek_6 (by decide) ?_
  refine a_iload_n 1 dM_hasWeek_7 rfl rfl ?_
  refine a_callV (Q' := m_res (some (.int (f_in k 0 (I 100 1 - 1)))) (m_up I 95 31 k) J R) (as := [.int (nI 1), .int k]) (st := []) dM_hasWeek_8 ml12_242 rfl (Nat.le_of_ble_eq_true rfl) ly_95 rfl rfl (by decide) (by omega) (Nat.le_of_ble_eq_true rfl) rfl (Nat.le_refl _) (Nat.le_refl _) (c_M_is (s := 1) hn hR (by omega)) (m_go ?_)
  show AW _ _ _ _ _ _ _ _ [.int (f_in k 0 (I 100 1 - 1))] _ _ _ _
  exact a_zret dM_hasWeek_11 rfl (m_nz (f_in_01 _ _ _)) ⟨rfl, rfl, rfl, rfl⟩
theorem c_M_hasLog {S : Nat × (Nat → Int32)} {d n : Nat} {I : mI} {J : mJ} {R : mR} (hn : 122 ≤ n) (hR : m_fin R) {k : Int32} : RUN S (d + 2) YM_hasLog [.ref 95, .int k] I J R n (some (.int (f_in k 0 (I 100 2 - 1)))) (m_up I 95 47 k) J R n := by
  show AW S _ YM_hasLog n n _ 0 [(0, .ref 95), (1, .int k)] [] I J R n
  refine a_aload_n 0 dM_hasLog_0 rfl rfl ?_
  refine a_iload_n 1 dM_hasLog_1 rfl rfl ?_
  refine a_puti dM_hasLog_2 fl12_432 rfl ly_95 (by omega) ?_
  refine a_aload_n 0 dM_hasLog_5 rfl rfl ?_
  refine a_iconstN (a := 2) dM_hasLog_6 (by decide) ?_
  refine a_iload_n 1 dM_hasLog_7 rfl rfl ?_
  refine a_callV (Q' := m_res (some (.int (f_in k 0 (I 100 2 - 1)))) (m_up I 95 47 k) J R) (as := [.int (nI 2), .int k]) (st := []) dM_hasLog_8 ml12_242 rfl (Nat.le_of_ble_eq_true rfl) ly_95 rfl rfl (by decide) (by omega) (Nat.le_of_ble_eq_true rfl) rfl (Nat.le_refl _) (Nat.le_refl _) (c_M_is (s := 2) hn hR (by omega)) (m_go ?_)
  show AW _ _ _ _ _ _ _ _ [.int (f_in k 0 (I 100 2 - 1))] _ _ _ _
  exact a_zret dM_hasLog_11 rfl (m_nz (f_in_01 _ _ _)) ⟨rfl, rfl, rfl, rfl⟩
abbrev cdI (I : mI) : mI := m_up I 95 0 0
theorem c_M_deed0 {S : Nat × (Nat → Int32)} {d n : Nat} {I : mI} {J : mJ} {R : mR} (hn : 122 ≤ n) (hR : m_fin R) {x y z : Int32} (h0 : f_in x 0 (I 100 1 - 1) = 0) : RUN S (d + 3) YM_deed [.ref 95, .int x, .int y, .int z] I J R n (some (.int (-2))) (m_up (m_up I 95 0 0) 95 31 x) J R n := by
  show AW S _ YM_deed n n _ 0 [(0, .ref 95), (1, .int x), (2, .int y), (3, .int z)] [] I J R n
  refine a_aload_n 0 dM_deed_0 rfl rfl ?_
  refine a_iconst (v := 0) dM_deed_1 (by decide) ?_
  refine a_puti dM_deed_2 fl12_90 rfl ly_95 (by omega) ?_
  refine a_aload_n 0 dM_deed_5 rfl rfl ?_
  refine a_iload_n 1 dM_deed_6 rfl rfl ?_
  refine a_callV (Q' := m_res (some (.int (f_in x 0 (I 100 1 - 1)))) (m_up (m_up I 95 0 0) 95 31 x) J R) (as := [.int x]) (st := []) dM_deed_7 ml12_289 rfl (Nat.le_of_ble_eq_true rfl) ly_95 rfl rfl (by decide) (by omega) (Nat.le_of_ble_eq_true rfl) rfl (Nat.le_refl _) (Nat.le_refl _) (c_M_hasWeek hn hR) (m_go ?_)
  show AW _ _ _ _ _ _ _ _ [.int (f_in x 0 (I 100 1 - 1))] _ _ _ _
  refine a_if_ne (tgt := 16) dM_deed_10 (by decide) (fun c => False.elim (c h0)) (fun _ => ?_)
  refine a_bipush (v := -2) dM_deed_13 (by decide) ?_
  exact a_iret dM_deed_15 rfl ⟨rfl, rfl, rfl, rfl⟩
def f_M_deed (kw c : Nat) (y z : Int32) (I : mI) : Int32 := (if y = (-1) then (if z = 0 then (nI c) else (-2)) else (if (f_in y 0 ((nI c) - 1)) = 0 then (-2) else (if (f_in z 0 2) = 0 then (-2) else (I 102 (121 * kw + 1 + 3 * y.toNatClampNeg + z.toNatClampNeg)))))
def gf_M_deed (kw c : Nat) (y z : Int32) (I : mI) : mI := (m_up (m_up I 95 0 0) 95 31 (nI kw))
theorem c_M_deed1 {S : Nat × (Nat → Int32)} {d n : Nat} {I : mI} {J : mJ} {R : mR} (hn : 122 ≤ n) (hR : m_fin R) {kw c : Nat} {y z : Int32} (h1 : f_in (nI kw) 0 (I 100 1 - 1) = 1) (h2 : kw < 2) (hc : I 102 (121 * kw) = nI c) (hcm : c ≤ 40)  : RUN S (d + 3) YM_deed [.ref 95, .int (nI kw), .int y, .int z] I J R n (some (.int (f_M_deed kw c y z I))) (gf_M_deed kw c y z I) J R n := by
  show AW S _ YM_deed n n _ 0 [(0, .ref 95), (1, .int (nI kw)), (2, .int y), (3, .int z)] [] I J R n
  refine a_aload_n 0 dM_deed_0 rfl rfl ?_
  refine a_iconst (v := 0) dM_deed_1 (by decide) ?_
  refine a_puti dM_deed_2 fl12_90 rfl ly_95 (by omega) ?_
  refine a_aload_n 0 dM_deed_5 rfl rfl ?_
  refine a_iload_n 1 dM_deed_6 rfl rfl ?_
  refine a_callV (Q' := m_res (some (.int (f_in (nI kw) 0 (I 100 1 - 1)))) (m_up (m_up I 95 0 0) 95 31 (nI kw)) J R) (as := [.int (nI kw)]) (st := []) dM_deed_7 ml12_289 rfl (Nat.le_of_ble_eq_true rfl) ly_95 rfl rfl (by decide) (by omega) (Nat.le_of_ble_eq_true rfl) rfl (Nat.le_refl _) (Nat.le_refl _) (c_M_hasWeek hn hR) (m_go ?_)
  show AW _ _ _ _ _ _ _ _ [.int (f_in (nI kw) 0 (I 100 1 - 1))] _ _ _ _
  refine a_if_ne (tgt := 16) dM_deed_10 (by decide) (fun _ => ?_) (fun c => False.elim (by rw [h1] at c; exact absurd c (by decide)))
  refine a_iload_n 2 dM_deed_16 rfl rfl ?_
  refine a_iconst (v := -1) dM_deed_17 (by decide) ?_
  refine a_icmp_ne (tgt := 35) dM_deed_18 (by decide) (fun c18 => ?_) (fun c18 => ?_)
  · refine a_iload_n 2 dM_deed_35 rfl rfl ?_
    refine a_iconst (v := 0) dM_deed_36 (by decide) ?_
    refine a_aload_n 0 dM_deed_37 rfl rfl ?_
    refine a_callV (Q' := m_res (some (.int (nI c))) (m_up (m_up I 95 0 0) 95 31 (nI kw)) J R) (as := []) (st := [.int 0, .int y]) dM_deed_38 ml12_292 rfl (Nat.le_of_ble_eq_true rfl) ly_95 rfl rfl (by decide) (by omega) (Nat.le_of_ble_eq_true rfl) rfl (Nat.le_refl _) (Nat.le_refl _) (by have h := c_M_deeds (S := S) (d := d + 2) (I := (m_up (m_up I 95 0 0) 95 31 (nI kw))) (J := J) (kw := kw) hn hR rfl (by omega); rw [show (m_up (m_up I 95 0 0) 95 31 (nI kw)) 102 (121 * kw) = nI c from hc] at h; exact h) (m_go ?_)
    show AW _ _ _ _ _ _ _ _ [.int (nI c), .int 0, .int y] _ _ _ _
    refine a_iconst (v := 1) dM_deed_41 (by decide) ?_
    refine a_isub dM_deed_42 ?_
    refine a_callS (Q' := m_res (some (.int (f_in y 0 ((nI c) - 1)))) (m_up (m_up I 95 0 0) 95 31 (nI kw)) J R) (as := [.int y, .int 0, .int ((nI c) - 1)]) (st := []) dM_deed_43 ml12_102 rfl (Nat.le_of_ble_eq_true rfl) (Nat.le_of_ble_eq_true rfl) rfl (Nat.le_refl _) (Nat.le_refl _) c_M_in (m_go ?_)
    show AW _ _ _ _ _ _ _ _ [.int (f_in y 0 ((nI c) - 1))] _ _ _ _
    refine a_if_eq (tgt := 67) dM_deed_46 (by decide) (fun c46 => ?_) (fun c46 => ?_)
    · refine a_bipush (v := -2) dM_deed_67 (by decide) ?_
      exact a_iret dM_deed_69 rfl ⟨(by unfold f_M_deed; rw [if_neg c18, if_pos c46]), rfl, rfl, rfl⟩
    · refine a_iload_n 3 dM_deed_49 rfl rfl ?_
      refine a_iconst (v := 0) dM_deed_50 (by decide) ?_
      refine a_iconst (v := 2) dM_deed_51 (by decide) ?_
      refine a_callS (Q' := m_res (some (.int (f_in z 0 2))) (m_up (m_up I 95 0 0) 95 31 (nI kw)) J R) (as := [.int z, .int 0, .int 2]) (st := []) dM_deed_52 ml12_102 rfl (Nat.le_of_ble_eq_true rfl) (Nat.le_of_ble_eq_true rfl) rfl (Nat.le_refl _) (Nat.le_refl _) c_M_in (m_go ?_)
      show AW _ _ _ _ _ _ _ _ [.int (f_in z 0 2)] _ _ _ _
      refine a_if_eq (tgt := 67) dM_deed_55 (by decide) (fun c55 => ?_) (fun c55 => ?_)
      · refine a_bipush (v := -2) dM_deed_67 (by decide) ?_
        exact a_iret dM_deed_69 rfl ⟨(by unfold f_M_deed; rw [if_neg c18, if_neg c46, if_pos c55]), rfl, rfl, rfl⟩
      · refine a_aload_n 0 dM_deed_58 rfl rfl ?_
        refine a_iload_n 2 dM_deed_59 rfl rfl ?_
        refine a_iload_n 3 dM_deed_60 rfl rfl ?_
        refine a_callV (Q' := m_res (some (.int (I 102 (121 * kw + 1 + 3 * y.toNatClampNeg + z.toNatClampNeg)))) (m_up (m_up I 95 0 0) 95 31 (nI kw)) J R) (as := [.int y, .int z]) (st := []) dM_deed_61 ml12_295 rfl (Nat.le_of_ble_eq_true rfl) ly_95 rfl rfl (by decide) (by omega) (Nat.le_of_ble_eq_true rfl) rfl (Nat.le_refl _) (Nat.le_refl _) (by obtain ⟨j, hj, rfl⟩ := f_in_nz (by omega) c46; obtain ⟨u, hu, rfl⟩ := f_in_l2 c55; have h := c_M_deedOf (S := S) (d := d + 2) (I := (m_up (m_up I 95 0 0) 95 31 (nI kw))) (J := J) (kw := kw) (k := j) (u := u) hn hR rfl (by omega) (by omega) (by omega); rw [nI_clamp (by omega), nI_clamp (by omega)]; exact h) (m_go ?_)
        show AW _ _ _ _ _ _ _ _ [.int (I 102 (121 * kw + 1 + 3 * y.toNatClampNeg + z.toNatClampNeg))] _ _ _ _
        refine a_goto (tgt := 69) dM_deed_64 (by decide) ?_
        exact a_iret dM_deed_69 rfl ⟨(by unfold f_M_deed; rw [if_neg c18, if_neg c46, if_neg c55]), rfl, rfl, rfl⟩
  · refine a_iload_n 3 dM_deed_21 rfl rfl ?_
    refine a_if_ne (tgt := 32) dM_deed_22 (by decide) (fun c22 => ?_) (fun c22 => ?_)
    · refine a_bipush (v := -2) dM_deed_32 (by decide) ?_
      exact a_iret dM_deed_34 rfl ⟨(by unfold f_M_deed; rw [if_pos c18, if_neg c22]), rfl, rfl, rfl⟩
    · refine a_aload_n 0 dM_deed_25 rfl rfl ?_
      refine a_callV (Q' := m_res (some (.int (nI c))) (m_up (m_up I 95 0 0) 95 31 (nI kw)) J R) (as := []) (st := []) dM_deed_26 ml12_292 rfl (Nat.le_of_ble_eq_true rfl) ly_95 rfl rfl (by decide) (by omega) (Nat.le_of_ble_eq_true rfl) rfl (Nat.le_refl _) (Nat.le_refl _) (by have h := c_M_deeds (S := S) (d := d + 2) (I := (m_up (m_up I 95 0 0) 95 31 (nI kw))) (J := J) (kw := kw) hn hR rfl (by omega); rw [show (m_up (m_up I 95 0 0) 95 31 (nI kw)) 102 (121 * kw) = nI c from hc] at h; exact h) (m_go ?_)
      show AW _ _ _ _ _ _ _ _ [.int (nI c)] _ _ _ _
      refine a_goto (tgt := 34) dM_deed_29 (by decide) ?_
      exact a_iret dM_deed_34 rfl ⟨(by unfold f_M_deed; rw [if_pos c18, if_pos c22]), rfl, rfl, rfl⟩
theorem c_M_fact0 {S : Nat × (Nat → Int32)} {d n : Nat} {I : mI} {J : mJ} {R : mR} (hn : 122 ≤ n) (hR : m_fin R) {x y z : Int32} (h0 : f_in x 0 (I 100 2 - 1) = 0) : RUN S (d + 3) YM_fact [.ref 95, .int x, .int y, .int z] I J R n (some (.int (-2))) (m_up (m_up I 95 0 0) 95 47 x) J R n := by
  show AW S _ YM_fact n n _ 0 [(0, .ref 95), (1, .int x), (2, .int y), (3, .int z)] [] I J R n
  refine a_aload_n 0 dM_fact_0 rfl rfl ?_
  refine a_iconst (v := 0) dM_fact_1 (by decide) ?_
  refine a_puti dM_fact_2 fl12_90 rfl ly_95 (by omega) ?_
  refine a_aload_n 0 dM_fact_5 rfl rfl ?_
  refine a_iload_n 1 dM_fact_6 rfl rfl ?_
  refine a_callV (Q' := m_res (some (.int (f_in x 0 (I 100 2 - 1)))) (m_up (m_up I 95 0 0) 95 47 x) J R) (as := [.int x]) (st := []) dM_fact_7 ml12_435 rfl (Nat.le_of_ble_eq_true rfl) ly_95 rfl rfl (by decide) (by omega) (Nat.le_of_ble_eq_true rfl) rfl (Nat.le_refl _) (Nat.le_refl _) (c_M_hasLog hn hR) (m_go ?_)
  show AW _ _ _ _ _ _ _ _ [.int (f_in x 0 (I 100 2 - 1))] _ _ _ _
  refine a_if_ne (tgt := 16) dM_fact_10 (by decide) (fun c => False.elim (c h0)) (fun _ => ?_)
  refine a_bipush (v := -2) dM_fact_13 (by decide) ?_
  exact a_iret dM_fact_15 rfl ⟨rfl, rfl, rfl, rfl⟩
def f_M_fact (kg c : Nat) (y z : Int32) (I : mI) : Int32 := (if y = (-1) then (if z = 0 then (nI c) else (-2)) else (if (f_in y 0 ((nI c) - 1)) = 0 then (-2) else (if (f_in z 0 1) = 0 then (-2) else (I 103 (17 * kg + 1 + 2 * y.toNatClampNeg + z.toNatClampNeg)))))
def gf_M_fact (kg c : Nat) (y z : Int32) (I : mI) : mI := (m_up (m_up I 95 0 0) 95 47 (nI kg))
theorem c_M_fact1 {S : Nat × (Nat → Int32)} {d n : Nat} {I : mI} {J : mJ} {R : mR} (hn : 122 ≤ n) (hR : m_fin R) {kg c : Nat} {y z : Int32} (h1 : f_in (nI kg) 0 (I 100 2 - 1) = 1) (h2 : kg < 2) (hc : I 103 (17 * kg) = nI c) (hcm : c ≤ 8)  : RUN S (d + 3) YM_fact [.ref 95, .int (nI kg), .int y, .int z] I J R n (some (.int (f_M_fact kg c y z I))) (gf_M_fact kg c y z I) J R n := by
  show AW S _ YM_fact n n _ 0 [(0, .ref 95), (1, .int (nI kg)), (2, .int y), (3, .int z)] [] I J R n
  refine a_aload_n 0 dM_fact_0 rfl rfl ?_
  refine a_iconst (v := 0) dM_fact_1 (by decide) ?_
  refine a_puti dM_fact_2 fl12_90 rfl ly_95 (by omega) ?_
  refine a_aload_n 0 dM_fact_5 rfl rfl ?_
  refine a_iload_n 1 dM_fact_6 rfl rfl ?_
  refine a_callV (Q' := m_res (some (.int (f_in (nI kg) 0 (I 100 2 - 1)))) (m_up (m_up I 95 0 0) 95 47 (nI kg)) J R) (as := [.int (nI kg)]) (st := []) dM_fact_7 ml12_435 rfl (Nat.le_of_ble_eq_true rfl) ly_95 rfl rfl (by decide) (by omega) (Nat.le_of_ble_eq_true rfl) rfl (Nat.le_refl _) (Nat.le_refl _) (c_M_hasLog hn hR) (m_go ?_)
  show AW _ _ _ _ _ _ _ _ [.int (f_in (nI kg) 0 (I 100 2 - 1))] _ _ _ _
  refine a_if_ne (tgt := 16) dM_fact_10 (by decide) (fun _ => ?_) (fun c => False.elim (by rw [h1] at c; exact absurd c (by decide)))
  refine a_iload_n 2 dM_fact_16 rfl rfl ?_
  refine a_iconst (v := -1) dM_fact_17 (by decide) ?_
  refine a_icmp_ne (tgt := 35) dM_fact_18 (by decide) (fun c18 => ?_) (fun c18 => ?_)
  · refine a_iload_n 2 dM_fact_35 rfl rfl ?_
    refine a_iconst (v := 0) dM_fact_36 (by decide) ?_
    refine a_aload_n 0 dM_fact_37 rfl rfl ?_
    refine a_callV (Q' := m_res (some (.int (nI c))) (m_up (m_up I 95 0 0) 95 47 (nI kg)) J R) (as := []) (st := [.int 0, .int y]) dM_fact_38 ml12_438 rfl (Nat.le_of_ble_eq_true rfl) ly_95 rfl rfl (by decide) (by omega) (Nat.le_of_ble_eq_true rfl) rfl (Nat.le_refl _) (Nat.le_refl _) (by have h := c_M_facts (S := S) (d := d + 2) (I := (m_up (m_up I 95 0 0) 95 47 (nI kg))) (J := J) (kg := kg) hn hR rfl (by omega); rw [show (m_up (m_up I 95 0 0) 95 47 (nI kg)) 103 (17 * kg) = nI c from hc] at h; exact h) (m_go ?_)
    show AW _ _ _ _ _ _ _ _ [.int (nI c), .int 0, .int y] _ _ _ _
    refine a_iconst (v := 1) dM_fact_41 (by decide) ?_
    refine a_isub dM_fact_42 ?_
    refine a_callS (Q' := m_res (some (.int (f_in y 0 ((nI c) - 1)))) (m_up (m_up I 95 0 0) 95 47 (nI kg)) J R) (as := [.int y, .int 0, .int ((nI c) - 1)]) (st := []) dM_fact_43 ml12_102 rfl (Nat.le_of_ble_eq_true rfl) (Nat.le_of_ble_eq_true rfl) rfl (Nat.le_refl _) (Nat.le_refl _) c_M_in (m_go ?_)
    show AW _ _ _ _ _ _ _ _ [.int (f_in y 0 ((nI c) - 1))] _ _ _ _
    refine a_if_eq (tgt := 67) dM_fact_46 (by decide) (fun c46 => ?_) (fun c46 => ?_)
    · refine a_bipush (v := -2) dM_fact_67 (by decide) ?_
      exact a_iret dM_fact_69 rfl ⟨(by unfold f_M_fact; rw [if_neg c18, if_pos c46]), rfl, rfl, rfl⟩
    · refine a_iload_n 3 dM_fact_49 rfl rfl ?_
      refine a_iconst (v := 0) dM_fact_50 (by decide) ?_
      refine a_iconst (v := 1) dM_fact_51 (by decide) ?_
      refine a_callS (Q' := m_res (some (.int (f_in z 0 1))) (m_up (m_up I 95 0 0) 95 47 (nI kg)) J R) (as := [.int z, .int 0, .int 1]) (st := []) dM_fact_52 ml12_102 rfl (Nat.le_of_ble_eq_true rfl) (Nat.le_of_ble_eq_true rfl) rfl (Nat.le_refl _) (Nat.le_refl _) c_M_in (m_go ?_)
      show AW _ _ _ _ _ _ _ _ [.int (f_in z 0 1)] _ _ _ _
      refine a_if_eq (tgt := 67) dM_fact_55 (by decide) (fun c55 => ?_) (fun c55 => ?_)
      · refine a_bipush (v := -2) dM_fact_67 (by decide) ?_
        exact a_iret dM_fact_69 rfl ⟨(by unfold f_M_fact; rw [if_neg c18, if_neg c46, if_pos c55]), rfl, rfl, rfl⟩
      · refine a_aload_n 0 dM_fact_58 rfl rfl ?_
        refine a_iload_n 2 dM_fact_59 rfl rfl ?_
        refine a_iload_n 3 dM_fact_60 rfl rfl ?_
        refine a_callV (Q' := m_res (some (.int (I 103 (17 * kg + 1 + 2 * y.toNatClampNeg + z.toNatClampNeg)))) (m_up (m_up I 95 0 0) 95 47 (nI kg)) J R) (as := [.int y, .int z]) (st := []) dM_fact_61 ml12_441 rfl (Nat.le_of_ble_eq_true rfl) ly_95 rfl rfl (by decide) (by omega) (Nat.le_of_ble_eq_true rfl) rfl (Nat.le_refl _) (Nat.le_refl _) (by obtain ⟨j, hj, rfl⟩ := f_in_nz (by omega) c46; obtain ⟨u, hu, rfl⟩ := f_in_l1 c55; have h := c_M_factOf (S := S) (d := d + 2) (I := (m_up (m_up I 95 0 0) 95 47 (nI kg))) (J := J) (kg := kg) (k := j) (u := u) hn hR rfl (by omega) (by omega) (by omega); rw [nI_clamp (by omega), nI_clamp (by omega)]; exact h) (m_go ?_)
        show AW _ _ _ _ _ _ _ _ [.int (I 103 (17 * kg + 1 + 2 * y.toNatClampNeg + z.toNatClampNeg))] _ _ _ _
        refine a_goto (tgt := 69) dM_fact_64 (by decide) ?_
        exact a_iret dM_fact_69 rfl ⟨(by unfold f_M_fact; rw [if_neg c18, if_neg c46, if_neg c55]), rfl, rfl, rfl⟩
  · refine a_iload_n 3 dM_fact_21 rfl rfl ?_
    refine a_if_ne (tgt := 32) dM_fact_22 (by decide) (fun c22 => ?_) (fun c22 => ?_)
    · refine a_bipush (v := -2) dM_fact_32 (by decide) ?_
      exact a_iret dM_fact_34 rfl ⟨(by unfold f_M_fact; rw [if_pos c18, if_neg c22]), rfl, rfl, rfl⟩
    · refine a_aload_n 0 dM_fact_25 rfl rfl ?_
      refine a_callV (Q' := m_res (some (.int (nI c))) (m_up (m_up I 95 0 0) 95 47 (nI kg)) J R) (as := []) (st := []) dM_fact_26 ml12_438 rfl (Nat.le_of_ble_eq_true rfl) ly_95 rfl rfl (by decide) (by omega) (Nat.le_of_ble_eq_true rfl) rfl (Nat.le_refl _) (Nat.le_refl _) (by have h := c_M_facts (S := S) (d := d + 2) (I := (m_up (m_up I 95 0 0) 95 47 (nI kg))) (J := J) (kg := kg) hn hR rfl (by omega); rw [show (m_up (m_up I 95 0 0) 95 47 (nI kg)) 103 (17 * kg) = nI c from hc] at h; exact h) (m_go ?_)
      show AW _ _ _ _ _ _ _ _ [.int (nI c)] _ _ _ _
      refine a_goto (tgt := 34) dM_fact_29 (by decide) ?_
      exact a_iret dM_fact_34 rfl ⟨(by unfold f_M_fact; rw [if_pos c18, if_pos c22]), rfl, rfl, rfl⟩
def f_M_fault (x : Int32) (I : mI) : Int32 := (if x = 0 then ((m_up I 95 0 0) 98 0) else (if x = 1 then ((m_up I 95 0 0) 99 0) else (-1)))
def gf_M_fault (x : Int32) (I : mI) : mI := (m_up I 95 0 0)
theorem c_M_fault {S : Nat × (Nat → Int32)} {d n : Nat} {I : mI} {J : mJ} {R : mR} (hn : 122 ≤ n) (hR : m_fin R) {x : Int32} : RUN S d YM_fault [.ref 95, .int x] I J R n (some (.int (f_M_fault x I))) (gf_M_fault x I) J R n := by
  show AW S _ YM_fault n n _ 0 [(0, .ref 95), (1, .int x)] [] I J R n
  refine a_aload_n 0 dM_fault_0 rfl rfl ?_
  refine a_iconst (v := 0) dM_fault_1 (by decide) ?_
  refine a_puti dM_fault_2 fl12_90 rfl ly_95 (by omega) ?_
  refine a_iload_n 1 dM_fault_5 rfl rfl ?_
  refine a_if_ne (tgt := 18) dM_fault_6 (by decide) (fun c6 => ?_) (fun c6 => ?_)
  · refine a_iload_n 1 dM_fault_18 rfl rfl ?_
    refine a_iconst (v := 1) dM_fault_19 (by decide) ?_
    refine a_icmp_ne (tgt := 32) dM_fault_20 (by decide) (fun c20 => ?_) (fun c20 => ?_)
    · refine a_iconst (v := -1) dM_fault_32 (by decide) ?_
      exact a_iret dM_fault_33 rfl ⟨(by unfold f_M_fault; rw [if_neg c6, if_neg c20]), rfl, rfl, rfl⟩
    · refine a_aload_n 0 dM_fault_23 rfl rfl ?_
      refine a_geta (r := 99) dM_fault_24 fl12_20 rfl ly_95 (by omega) (rf_95_4 hR) ?_
      refine a_iconst (v := 0) dM_fault_27 (by decide) ?_
      refine a_ialdN (a := 0) dM_fault_28 ly_99 (by omega) (by omega) (by decide) ?_
      refine a_goto (tgt := 33) dM_fault_29 (by decide) ?_
      exact a_iret dM_fault_33 rfl ⟨(by unfold f_M_fault; rw [if_neg c6, if_pos c20]), rfl, rfl, rfl⟩
  · refine a_aload_n 0 dM_fault_9 rfl rfl ?_
    refine a_geta (r := 98) dM_fault_10 fl12_17 rfl ly_95 (by omega) (rf_95_3 hR) ?_
    refine a_iconst (v := 0) dM_fault_13 (by decide) ?_
    refine a_ialdN (a := 0) dM_fault_14 ly_98 (by omega) (by omega) (by decide) ?_
    refine a_goto (tgt := 33) dM_fault_15 (by decide) ?_
    exact a_iret dM_fault_33 rfl ⟨(by unfold f_M_fault; rw [if_pos c6]), rfl, rfl, rfl⟩
def f_M_count (x : Int32) (I : mI) : Int32 := (if (f_in x 0 2) = 0 then (-2) else ((m_up I 95 0 0) 100 (Int32.toNatClampNeg x)))
def gf_M_count (x : Int32) (I : mI) : mI := (m_up I 95 0 0)
theorem c_M_count {S : Nat × (Nat → Int32)} {d n : Nat} {I : mI} {J : mJ} {R : mR} (hn : 122 ≤ n) (hR : m_fin R) {x : Int32} : RUN S (d + 1) YM_count [.ref 95, .int x] I J R n (some (.int (f_M_count x I))) (gf_M_count x I) J R n := by
  show AW S _ YM_count n n _ 0 [(0, .ref 95), (1, .int x)] [] I J R n
  refine a_aload_n 0 dM_count_0 rfl rfl ?_
  refine a_iconst (v := 0) dM_count_1 (by decide) ?_
  refine a_puti dM_count_2 fl12_90 rfl ly_95 (by omega) ?_
  refine a_iload_n 1 dM_count_5 rfl rfl ?_
  refine a_iconst (v := 0) dM_count_6 (by decide) ?_
  refine a_iconst (v := 2) dM_count_7 (by decide) ?_
  refine a_callS (Q' := m_res (some (.int (f_in x 0 2))) (m_up I 95 0 0) J R) (as := [.int x, .int 0, .int 2]) (st := []) dM_count_8 ml12_102 rfl (Nat.le_of_ble_eq_true rfl) (Nat.le_of_ble_eq_true rfl) rfl (Nat.le_refl _) (Nat.le_refl _) c_M_in (m_go ?_)
  show AW _ _ _ _ _ _ _ _ [.int (f_in x 0 2)] _ _ _ _
  refine a_if_eq (tgt := 23) dM_count_11 (by decide) (fun c11 => ?_) (fun c11 => ?_)
  · refine a_bipush (v := -2) dM_count_23 (by decide) ?_
    exact a_iret dM_count_25 rfl ⟨(by unfold f_M_count; rw [if_pos c11]), rfl, rfl, rfl⟩
  · refine a_aload_n 0 dM_count_14 rfl rfl ?_
    refine a_geta (r := 100) dM_count_15 fl12_23 rfl ly_95 (by omega) (rf_95_5 hR) ?_
    refine a_iload_n 1 dM_count_18 rfl rfl ?_
    refine a_iald dM_count_19 ly_100 (by omega) (by obtain ⟨j, hj, rfl⟩ := f_in_l2 c11; exact vp_in_nI (by omega) (by decide)) ?_
    refine a_goto (tgt := 25) dM_count_20 (by decide) ?_
    exact a_iret dM_count_25 rfl ⟨(by unfold f_M_count; rw [if_neg c11]), rfl, rfl, rfl⟩
def f_M_end (x : Int32) (I : mI) : Int32 := (if (f_in x 0 ((m_up I 95 0 0) 97 0)) = 0 then (-1) else x)
def gf_M_end (x : Int32) (I : mI) : mI := (if (f_in x 0 ((m_up I 95 0 0) 97 0)) = 0 then (m_up I 95 0 0) else (m_up (m_up I 95 0 0) 97 0 x))
theorem c_M_end {S : Nat × (Nat → Int32)} {d n : Nat} {I : mI} {J : mJ} {R : mR} (hn : 122 ≤ n) (hR : m_fin R) {x : Int32} : RUN S (d + 1) YM_end [.ref 95, .int x] I J R n (some (.int (f_M_end x I))) (gf_M_end x I) J R n := by
  show AW S _ YM_end n n _ 0 [(0, .ref 95), (1, .int x)] [] I J R n
  refine a_aload_n 0 dM_end_0 rfl rfl ?_
  refine a_iconst (v := 0) dM_end_1 (by decide) ?_
  refine a_puti dM_end_2 fl12_90 rfl ly_95 (by omega) ?_
  refine a_iload_n 1 dM_end_5 rfl rfl ?_
  refine a_iconst (v := 0) dM_end_6 (by decide) ?_
  refine a_aload_n 0 dM_end_7 rfl rfl ?_
  refine a_geta (r := 97) dM_end_8 fl12_13 rfl ly_95 (by omega) (rf_95_2 hR) ?_
  refine a_iconst (v := 0) dM_end_11 (by decide) ?_
  refine a_ialdN (a := 0) dM_end_12 ly_97 (by omega) (by omega) (by decide) ?_
  refine a_callS (Q' := m_res (some (.int (f_in x 0 ((m_up I 95 0 0) 97 0)))) (m_up I 95 0 0) J R) (as := [.int x, .int 0, .int ((m_up I 95 0 0) 97 0)]) (st := []) dM_end_13 ml12_102 rfl (Nat.le_of_ble_eq_true rfl) (Nat.le_of_ble_eq_true rfl) rfl (Nat.le_refl _) (Nat.le_refl _) c_M_in (m_go ?_)
  show AW _ _ _ _ _ _ _ _ [.int (f_in x 0 ((m_up I 95 0 0) 97 0))] _ _ _ _
  refine a_if_ne (tgt := 21) dM_end_16 (by decide) (fun c16 => ?_) (fun c16 => ?_)
  · refine a_aload_n 0 dM_end_21 rfl rfl ?_
    refine a_geta (r := 97) dM_end_22 fl12_13 rfl ly_95 (by omega) (rf_95_2 hR) ?_
    refine a_iconst (v := 0) dM_end_25 (by decide) ?_
    refine a_iload_n 1 dM_end_26 rfl rfl ?_
    refine a_iastN (a := 0) dM_end_27 ly_97 (by omega) (by omega) (by decide) ?_
    refine a_iload_n 1 dM_end_28 rfl rfl ?_
    exact a_iret dM_end_29 rfl ⟨(by unfold f_M_end; rw [if_neg c16]), (by unfold gf_M_end; rw [if_neg c16]), rfl, rfl⟩
  · refine a_iconst (v := -1) dM_end_19 (by decide) ?_
    exact a_iret dM_end_20 rfl ⟨(by unfold f_M_end; rw [if_pos c16]), (by unfold gf_M_end; rw [if_pos c16]), rfl, rfl⟩
theorem c_M_office0 {S : Nat × (Nat → Int32)} {d n : Nat} {I : mI} {J : mJ} {R : mR} (hn : 122 ≤ n) (hR : m_fin R) {x y : Int32} (h0 : f_in x 0 (I 100 0 - 1) = 0) : RUN S (d + 3) YM_office [.ref 95, .int x, .int y] I J R n (some (.int (-2))) (cdI I) J R n := by
  show AW S _ YM_office n n _ 0 [(0, .ref 95), (1, .int x), (2, .int y)] [] I J R n
  refine a_aload_n 0 dM_office_0 rfl rfl ?_
  refine a_iconst (v := 0) dM_office_1 (by decide) ?_
  refine a_puti dM_office_2 fl12_90 rfl ly_95 (by omega) ?_
  refine a_aload_n 0 dM_office_5 rfl rfl ?_
  refine a_iload_n 1 dM_office_6 rfl rfl ?_
  refine a_callV (Q' := m_res (some (.int 0)) (m_up I 95 0 0) J R) (as := [.int x]) (st := []) dM_office_7 ml12_277 rfl (Nat.le_of_ble_eq_true rfl) ly_95 rfl rfl (by decide) (by omega) (Nat.le_of_ble_eq_true rfl) rfl (Nat.le_refl _) (Nat.le_refl _) (c_M_hand0 hn hR h0) (m_go ?_)
  show AW _ _ _ _ _ _ _ _ [.int 0] _ _ _ _
  refine a_if_ne (tgt := 16) dM_office_10 (by decide) (fun c => False.elim (c rfl)) (fun _ => ?_)
  refine a_bipush (v := -2) dM_office_13 (by decide) ?_
  exact a_iret dM_office_15 rfl ⟨rfl, rfl, rfl, rfl⟩
theorem ol_2 {a b c d e : Int32} : olF a b c d e (nI 2) = a := rfl
theorem ol_3 {a b c d e : Int32} : olF a b c d e (nI 3) = b := rfl
theorem ol_4 {a b c d e : Int32} : olF a b c d e (nI 4) = c := rfl
theorem ol_5 {a b c d e : Int32} : olF a b c d e (nI 5) = d := rfl
theorem ol_6 {a b c d e : Int32} : olF a b c d e (nI 6) = e := rfl
theorem ol_o {a b c d e : Int32} {w : Nat} (hw : w < 2 ^ 31) (h : 6 < w ∨ w < 2) : olF a b c d e (nI w) = -2 := by
  have e : ∀ q : Nat, q < 2 ^ 31 → w ≠ q → ¬ nI w = nI q := fun q hq hne hc => hne ((nI_eq hw hq).mp hc)
  unfold olF
  rw [if_neg (show ¬ nI w = (2 : Int32) from e 2 (by decide) (by omega)), if_neg (show ¬ nI w = (3 : Int32) from e 3 (by decide) (by omega)), if_neg (show ¬ nI w = (4 : Int32) from e 4 (by decide) (by omega)), if_neg (show ¬ nI w = (5 : Int32) from e 5 (by decide) (by omega)), if_neg (show ¬ nI w = (6 : Int32) from e 6 (by decide) (by omega))]
theorem sz_n {f : Nat → Int32} {w : Nat} (h : w < 3) : szF (f 0) (f 1) (f 2) (nI w) = f w := by
  rcases (show w = 0 ∨ w = 1 ∨ w = 2 by omega) with rfl | rfl | rfl <;> rfl
theorem sz_o {a b c : Int32} {w : Nat} (hw : w < 2 ^ 31) (h : 3 ≤ w) : szF a b c (nI w) = -2 := by
  have e : ∀ q : Nat, q < 2 ^ 31 → w ≠ q → ¬ nI w = nI q := fun q hq hne hc => hne ((nI_eq hw hq).mp hc)
  unfold szF
  rw [if_neg (show ¬ nI w = (0 : Int32) from e 0 (by decide) (by omega)), if_neg (show ¬ nI w = (1 : Int32) from e 1 (by decide) (by omega)), if_neg (show ¬ nI w = (2 : Int32) from e 2 (by decide) (by omega))]
theorem f_in_02 {w : Nat} (hw : w < 2 ^ 31) : f_in (nI w) (nI 0) (nI 2) = 0 ↔ 3 ≤ w := f_in_n0 (c := 3) hw (by decide)
abbrev ansR (I : mI) (ko nh nl w : Nat) : Int32 := ansW nh nl (oR I ko 0) (oR I ko 1) (oR I ko 2) (fun j => oR I ko (3 + j)) (fun l => oR I ko (9 + l)) (fun l => oR I ko (19 + l)) (fun l => oR I ko (29 + l)) (fun l => oR I ko (39 + l)) (fun l => oR I ko (49 + l)) (fun j => oR I ko (59 + j)) w
theorem c_M_officeN {S : Nat × (Nat → Int32)} {d n : Nat} {I : mI} {J : mJ} {R : mR} (hn : 122 ≤ n) (hR : m_fin R) {ko : Nat} (h1 : f_in (nI ko) 0 (I 100 0 - 1) = 1) (hk : ko < 2) {nh nl : Nat} (hh : oR I ko 0 = nI nh) (hnh : nh ≤ 6) (hl : oR I ko 1 = nI nl) (hnl : nl ≤ 10) {w : Nat} (hw : w < 2 ^ 31) : RUN S (d + 3) YM_office [.ref 95, .int (nI ko), .int (nI w)] I J R n (some (.int (ansR I ko nh nl w))) (hdI (cdI I) ko) J R n := by
  show AW S _ YM_office n n _ 0 [(0, .ref 95), (1, .int (nI ko)), (2, .int (nI w))] [] I J R n
  refine a_aload_n 0 dM_office_0 rfl rfl ?_
  refine a_iconstN (a := 0) dM_office_1 (by decide) ?_
  refine a_puti dM_office_2 fl12_90 rfl ly_95 (by omega) ?_
  refine a_aload_n 0 dM_office_5 rfl rfl ?_
  refine a_iload_n 1 dM_office_6 rfl rfl ?_
  refine a_callV (Q' := m_res (some (.int 1)) (hdI (m_up I 95 0 (nI 0)) ko) J R) (as := [.int (nI ko)]) (st := []) dM_office_7 ml12_277 rfl (Nat.le_of_ble_eq_true rfl) ly_95 rfl rfl (by decide) (by omega) (Nat.le_of_ble_eq_true rfl) rfl (Nat.le_refl _) (Nat.le_refl _) (c_M_hand hn hR (by omega) h1) (m_go ?_)
  show AW _ _ _ _ _ _ _ _ [.int 1] _ _ _ _
  refine a_if_ne (tgt := 16) dM_office_10 (by decide) (fun _ => ?_) (fun c => False.elim (absurd c (by decide)))
  refine a_iload_n 2 dM_office_16 rfl rfl ?_
  refine a_bipushN (a := 10) dM_office_17 (by decide) ?_
  refine a_iremN dM_office_19 (by omega) (by omega) (by omega) ?_
  refine a_istore_n (lv' := [(3, .int (nI (w % 10))), (0, .ref 95), (1, .int (nI ko)), (2, .int (nI w))]) dM_office_20 rfl (by decide) rfl ?_
  refine a_iload_n 3 dM_office_21 rfl rfl ?_
  refine a_bipushN (a := 10) dM_office_22 (by decide) ?_
  refine a_idivN dM_office_24 (by omega) (by omega) (by omega) ?_
  rcases (show w / 10 = 0 ∨ w / 10 = 1 ∨ w / 10 = 2 ∨ w / 10 = 3 ∨ w / 10 = 4 ∨ w / 10 = 5 ∨ w / 10 = 6 ∨ w / 10 = 7 ∨ w / 10 = 8 ∨ w / 10 = 9 ∨ w / 10 = 10 ∨ w / 10 = 11 ∨ 11 < w / 10 by omega) with hs | hs | hs | hs | hs | hs | hs | hs | hs | hs | hs | hs | hs
  · refine a_tab (c := 0) (off := 63) (tgt := 88) dM_office_25 (by rw [hs]; rfl) (by decide) (by decide) (by decide) (by decide) ?_
    refine a_iload_n 3 dM_office_88 rfl rfl ?_
    refine a_iconstN (a := 0) dM_office_89 (by decide) ?_
    refine a_iconstN (a := 2) dM_office_90 (by decide) ?_
    refine a_callS (Q' := m_res (some (.int (f_in (nI w) (nI 0) (nI 2)))) (hdI (m_up I 95 0 (nI 0)) ko) J R) (as := [.int (nI w), .int (nI 0), .int (nI 2)]) (st := []) dM_office_91 ml12_102 rfl (Nat.le_of_ble_eq_true rfl) (Nat.le_of_ble_eq_true rfl) rfl (Nat.le_refl _) (Nat.le_refl _) c_M_in (m_go ?_)
    show AW _ _ _ _ _ _ _ _ [.int (f_in (nI w) (nI 0) (nI 2))] _ _ _ _
    refine a_if_eq (tgt := 105) dM_office_94 (by decide) (fun c94 => ?_) (fun c94 => ?_)
    · refine a_bipush (v := -2) dM_office_105 (by decide) ?_
      exact a_iret dM_office_107 rfl ⟨by rw [f_in_02 (by omega)] at c94; unfold ansR ansW; rw [if_neg (show ¬ 100 ≤ w by omega), if_pos (show w < 10 by omega), sz_o (by omega) (by omega)], rfl, rfl, rfl⟩
    · refine a_aload_n 1 dM_office_97 rfl rfl ?_
      refine a_iload_n 3 dM_office_98 rfl rfl ?_
      refine a_callV (Q' := m_res (some (.int (oR I ko w))) (hdI (m_up I 95 0 (nI 0)) ko) J R) (as := [.int (nI w)]) (st := []) dM_office_99 ml12_255 rfl (Nat.le_of_ble_eq_true rfl) ly_95 rfl rfl (by decide) (by omega) (Nat.le_of_ble_eq_true rfl) rfl (Nat.le_refl _) (Nat.le_refl _) (c_M_of (ko := ko) (at0 := w) hn hR rfl (by omega)) (m_go ?_)
      show AW _ _ _ _ _ _ _ _ [.int (oR I ko w)] _ _ _ _
      refine a_goto (tgt := 107) dM_office_102 (by decide) ?_
      exact a_iret dM_office_107 rfl ⟨by rw [f_in_02 (by omega)] at c94; unfold ansR ansW; rw [if_neg (show ¬ 100 ≤ w by omega), if_pos (show w < 10 by omega)]; rw [sz_n (f := oR I ko) (by omega)], rfl, rfl, rfl⟩
  · refine a_tab (c := 1) (off := 83) (tgt := 108) dM_office_25 (by rw [hs]; rfl) (by decide) (by decide) (by decide) (by decide) ?_
    refine a_iload_n 0 dM_office_108 rfl rfl ?_
    refine a_aload_n 1 dM_office_109 rfl rfl ?_
    refine a_geti dM_office_110 fl12_259 rfl ly_95 (by omega) ?_
    rw [show (hdI (m_up I 95 0 (nI 0)) ko) 95 24 = (nI nh) from (by first | exact hh | exact hl)]
    refine a_icmp_geN (tgt := 126) dM_office_113 (by decide) (by omega) (by omega) (fun c113 => ?_) (fun c113 => ?_)
    · refine a_bipush (v := -2) dM_office_126 (by decide) ?_
      exact a_iret dM_office_128 rfl ⟨by unfold ansR ansW; rw [if_neg (show ¬ 100 ≤ w by omega), if_neg (show ¬ w < 10 by omega), if_pos (show w < 20 by omega), if_neg (show ¬ w % 10 < nh by omega)], rfl, rfl, rfl⟩
    · refine a_aload_n 1 dM_office_116 rfl rfl ?_
      refine a_iconstN (a := 3) dM_office_117 (by decide) ?_
      refine a_iload_n 0 dM_office_118 rfl rfl ?_
      refine a_iaddN (a := 3) (b := (w % 10)) dM_office_119 ?_
      refine a_callV (Q' := m_res (some (.int (oR I ko (3 + (w % 10))))) (hdI (m_up I 95 0 (nI 0)) ko) J R) (as := [.int (nI (3 + (w % 10)))]) (st := []) dM_office_120 ml12_255 rfl (Nat.le_of_ble_eq_true rfl) ly_95 rfl rfl (by decide) (by omega) (Nat.le_of_ble_eq_true rfl) rfl (Nat.le_refl _) (Nat.le_refl _) (c_M_of (ko := ko) (at0 := (3 + (w % 10))) hn hR rfl (by omega)) (m_go ?_)
      show AW _ _ _ _ _ _ _ _ [.int (oR I ko (3 + (w % 10)))] _ _ _ _
      refine a_goto (tgt := 128) dM_office_123 (by decide) ?_
      exact a_iret dM_office_128 rfl ⟨by unfold ansR ansW; rw [if_neg (show ¬ 100 ≤ w by omega), if_neg (show ¬ w < 10 by omega), if_pos (show w < 20 by omega), if_pos (show w % 10 < nh by omega)], rfl, rfl, rfl⟩
  · refine a_tab (c := 2) (off := 104) (tgt := 129) dM_office_25 (by rw [hs]; rfl) (by decide) (by decide) (by decide) (by decide) ?_
    refine a_iload_n 0 dM_office_129 rfl rfl ?_
    refine a_aload_n 1 dM_office_130 rfl rfl ?_
    refine a_geti dM_office_131 fl12_262 rfl ly_95 (by omega) ?_
    rw [show (hdI (m_up I 95 0 (nI 0)) ko) 95 25 = (nI nl) from (by first | exact hh | exact hl)]
    refine a_icmp_geN (tgt := 158) dM_office_134 (by decide) (by omega) (by omega) (fun c134 => ?_) (fun c134 => ?_)
    · refine a_bipush (v := -2) dM_office_158 (by decide) ?_
      exact a_iret dM_office_160 rfl ⟨by unfold ansR ansW; rw [if_neg (show ¬ 100 ≤ w by omega), if_neg (show ¬ w < 10 by omega), if_neg (show ¬ w < 20 by omega), if_neg (show ¬ w % 10 < nl by omega)], rfl, rfl, rfl⟩
    · refine a_aload_n 1 dM_office_137 rfl rfl ?_
      refine a_bipushN (a := 9) dM_office_138 (by decide) ?_
      refine a_bipushN (a := 10) dM_office_140 (by decide) ?_
      refine a_iload_n 3 dM_office_142 rfl rfl ?_
      refine a_bipushN (a := 10) dM_office_143 (by decide) ?_
      refine a_idivN dM_office_145 (by omega) (by omega) (by omega) ?_
      refine a_iconstN (a := 2) dM_office_146 (by decide) ?_
      refine a_isubN dM_office_147 (by omega) ?_
      refine a_imulN (a := 10) (b := ((w / 10) - 2)) dM_office_148 ?_
      refine a_iaddN (a := 9) (b := (10 * ((w / 10) - 2))) dM_office_149 ?_
      refine a_iload_n 0 dM_office_150 rfl rfl ?_
      refine a_iaddN (a := (9 + (10 * ((w / 10) - 2)))) (b := (w % 10)) dM_office_151 ?_
      refine a_callV (Q' := m_res (some (.int (oR I ko ((9 + (10 * ((w / 10) - 2))) + (w % 10))))) (hdI (m_up I 95 0 (nI 0)) ko) J R) (as := [.int (nI ((9 + (10 * ((w / 10) - 2))) + (w % 10)))]) (st := []) dM_office_152 ml12_255 rfl (Nat.le_of_ble_eq_true rfl) ly_95 rfl rfl (by decide) (by omega) (Nat.le_of_ble_eq_true rfl) rfl (Nat.le_refl _) (Nat.le_refl _) (c_M_of (ko := ko) (at0 := ((9 + (10 * ((w / 10) - 2))) + (w % 10))) hn hR rfl (by omega)) (m_go ?_)
      show AW _ _ _ _ _ _ _ _ [.int (oR I ko ((9 + (10 * ((w / 10) - 2))) + (w % 10)))] _ _ _ _
      refine a_goto (tgt := 160) dM_office_155 (by decide) ?_
      exact a_iret dM_office_160 rfl ⟨by unfold ansR ansW; rw [if_neg (show ¬ 100 ≤ w by omega), if_neg (show ¬ w < 10 by omega), if_neg (show ¬ w < 20 by omega), if_pos (show w % 10 < nl by omega), hs, ol_2], rfl, rfl, rfl⟩
  · refine a_tab (c := 3) (off := 104) (tgt := 129) dM_office_25 (by rw [hs]; rfl) (by decide) (by decide) (by decide) (by decide) ?_
    refine a_iload_n 0 dM_office_129 rfl rfl ?_
    refine a_aload_n 1 dM_office_130 rfl rfl ?_
    refine a_geti dM_office_131 fl12_262 rfl ly_95 (by omega) ?_
    rw [show (hdI (m_up I 95 0 (nI 0)) ko) 95 25 = (nI nl) from (by first | exact hh | exact hl)]
    refine a_icmp_geN (tgt := 158) dM_office_134 (by decide) (by omega) (by omega) (fun c134 => ?_) (fun c134 => ?_)
    · refine a_bipush (v := -2) dM_office_158 (by decide) ?_
      exact a_iret dM_office_160 rfl ⟨by unfold ansR ansW; rw [if_neg (show ¬ 100 ≤ w by omega), if_neg (show ¬ w < 10 by omega), if_neg (show ¬ w < 20 by omega), if_neg (show ¬ w % 10 < nl by omega)], rfl, rfl, rfl⟩
    · refine a_aload_n 1 dM_office_137 rfl rfl ?_
      refine a_bipushN (a := 9) dM_office_138 (by decide) ?_
      refine a_bipushN (a := 10) dM_office_140 (by decide) ?_
      refine a_iload_n 3 dM_office_142 rfl rfl ?_
      refine a_bipushN (a := 10) dM_office_143 (by decide) ?_
      refine a_idivN dM_office_145 (by omega) (by omega) (by omega) ?_
      refine a_iconstN (a := 2) dM_office_146 (by decide) ?_
      refine a_isubN dM_office_147 (by omega) ?_
      refine a_imulN (a := 10) (b := ((w / 10) - 2)) dM_office_148 ?_
      refine a_iaddN (a := 9) (b := (10 * ((w / 10) - 2))) dM_office_149 ?_
      refine a_iload_n 0 dM_office_150 rfl rfl ?_
      refine a_iaddN (a := (9 + (10 * ((w / 10) - 2)))) (b := (w % 10)) dM_office_151 ?_
      refine a_callV (Q' := m_res (some (.int (oR I ko ((9 + (10 * ((w / 10) - 2))) + (w % 10))))) (hdI (m_up I 95 0 (nI 0)) ko) J R) (as := [.int (nI ((9 + (10 * ((w / 10) - 2))) + (w % 10)))]) (st := []) dM_office_152 ml12_255 rfl (Nat.le_of_ble_eq_true rfl) ly_95 rfl rfl (by decide) (by omega) (Nat.le_of_ble_eq_true rfl) rfl (Nat.le_refl _) (Nat.le_refl _) (c_M_of (ko := ko) (at0 := ((9 + (10 * ((w / 10) - 2))) + (w % 10))) hn hR rfl (by omega)) (m_go ?_)
      show AW _ _ _ _ _ _ _ _ [.int (oR I ko ((9 + (10 * ((w / 10) - 2))) + (w % 10)))] _ _ _ _
      refine a_goto (tgt := 160) dM_office_155 (by decide) ?_
      exact a_iret dM_office_160 rfl ⟨by unfold ansR ansW; rw [if_neg (show ¬ 100 ≤ w by omega), if_neg (show ¬ w < 10 by omega), if_neg (show ¬ w < 20 by omega), if_pos (show w % 10 < nl by omega), hs, ol_3], rfl, rfl, rfl⟩
  · refine a_tab (c := 4) (off := 104) (tgt := 129) dM_office_25 (by rw [hs]; rfl) (by decide) (by decide) (by decide) (by decide) ?_
    refine a_iload_n 0 dM_office_129 rfl rfl ?_
    refine a_aload_n 1 dM_office_130 rfl rfl ?_
    refine a_geti dM_office_131 fl12_262 rfl ly_95 (by omega) ?_
    rw [show (hdI (m_up I 95 0 (nI 0)) ko) 95 25 = (nI nl) from (by first | exact hh | exact hl)]
    refine a_icmp_geN (tgt := 158) dM_office_134 (by decide) (by omega) (by omega) (fun c134 => ?_) (fun c134 => ?_)
    · refine a_bipush (v := -2) dM_office_158 (by decide) ?_
      exact a_iret dM_office_160 rfl ⟨by unfold ansR ansW; rw [if_neg (show ¬ 100 ≤ w by omega), if_neg (show ¬ w < 10 by omega), if_neg (show ¬ w < 20 by omega), if_neg (show ¬ w % 10 < nl by omega)], rfl, rfl, rfl⟩
    · refine a_aload_n 1 dM_office_137 rfl rfl ?_
      refine a_bipushN (a := 9) dM_office_138 (by decide) ?_
      refine a_bipushN (a := 10) dM_office_140 (by decide) ?_
      refine a_iload_n 3 dM_office_142 rfl rfl ?_
      refine a_bipushN (a := 10) dM_office_143 (by decide) ?_
      refine a_idivN dM_office_145 (by omega) (by omega) (by omega) ?_
      refine a_iconstN (a := 2) dM_office_146 (by decide) ?_
      refine a_isubN dM_office_147 (by omega) ?_
      refine a_imulN (a := 10) (b := ((w / 10) - 2)) dM_office_148 ?_
      refine a_iaddN (a := 9) (b := (10 * ((w / 10) - 2))) dM_office_149 ?_
      refine a_iload_n 0 dM_office_150 rfl rfl ?_
      refine a_iaddN (a := (9 + (10 * ((w / 10) - 2)))) (b := (w % 10)) dM_office_151 ?_
      refine a_callV (Q' := m_res (some (.int (oR I ko ((9 + (10 * ((w / 10) - 2))) + (w % 10))))) (hdI (m_up I 95 0 (nI 0)) ko) J R) (as := [.int (nI ((9 + (10 * ((w / 10) - 2))) + (w % 10)))]) (st := []) dM_office_152 ml12_255 rfl (Nat.le_of_ble_eq_true rfl) ly_95 rfl rfl (by decide) (by omega) (Nat.le_of_ble_eq_true rfl) rfl (Nat.le_refl _) (Nat.le_refl _) (c_M_of (ko := ko) (at0 := ((9 + (10 * ((w / 10) - 2))) + (w % 10))) hn hR rfl (by omega)) (m_go ?_)
      show AW _ _ _ _ _ _ _ _ [.int (oR I ko ((9 + (10 * ((w / 10) - 2))) + (w % 10)))] _ _ _ _
      refine a_goto (tgt := 160) dM_office_155 (by decide) ?_
      exact a_iret dM_office_160 rfl ⟨by unfold ansR ansW; rw [if_neg (show ¬ 100 ≤ w by omega), if_neg (show ¬ w < 10 by omega), if_neg (show ¬ w < 20 by omega), if_pos (show w % 10 < nl by omega), hs, ol_4], rfl, rfl, rfl⟩
  · refine a_tab (c := 5) (off := 104) (tgt := 129) dM_office_25 (by rw [hs]; rfl) (by decide) (by decide) (by decide) (by decide) ?_
    refine a_iload_n 0 dM_office_129 rfl rfl ?_
    refine a_aload_n 1 dM_office_130 rfl rfl ?_
    refine a_geti dM_office_131 fl12_262 rfl ly_95 (by omega) ?_
    rw [show (hdI (m_up I 95 0 (nI 0)) ko) 95 25 = (nI nl) from (by first | exact hh | exact hl)]
    refine a_icmp_geN (tgt := 158) dM_office_134 (by decide) (by omega) (by omega) (fun c134 => ?_) (fun c134 => ?_)
    · refine a_bipush (v := -2) dM_office_158 (by decide) ?_
      exact a_iret dM_office_160 rfl ⟨by unfold ansR ansW; rw [if_neg (show ¬ 100 ≤ w by omega), if_neg (show ¬ w < 10 by omega), if_neg (show ¬ w < 20 by omega), if_neg (show ¬ w % 10 < nl by omega)], rfl, rfl, rfl⟩
    · refine a_aload_n 1 dM_office_137 rfl rfl ?_
      refine a_bipushN (a := 9) dM_office_138 (by decide) ?_
      refine a_bipushN (a := 10) dM_office_140 (by decide) ?_
      refine a_iload_n 3 dM_office_142 rfl rfl ?_
      refine a_bipushN (a := 10) dM_office_143 (by decide) ?_
      refine a_idivN dM_office_145 (by omega) (by omega) (by omega) ?_
      refine a_iconstN (a := 2) dM_office_146 (by decide) ?_
      refine a_isubN dM_office_147 (by omega) ?_
      refine a_imulN (a := 10) (b := ((w / 10) - 2)) dM_office_148 ?_
      refine a_iaddN (a := 9) (b := (10 * ((w / 10) - 2))) dM_office_149 ?_
      refine a_iload_n 0 dM_office_150 rfl rfl ?_
      refine a_iaddN (a := (9 + (10 * ((w / 10) - 2)))) (b := (w % 10)) dM_office_151 ?_
      refine a_callV (Q' := m_res (some (.int (oR I ko ((9 + (10 * ((w / 10) - 2))) + (w % 10))))) (hdI (m_up I 95 0 (nI 0)) ko) J R) (as := [.int (nI ((9 + (10 * ((w / 10) - 2))) + (w % 10)))]) (st := []) dM_office_152 ml12_255 rfl (Nat.le_of_ble_eq_true rfl) ly_95 rfl rfl (by decide) (by omega) (Nat.le_of_ble_eq_true rfl) rfl (Nat.le_refl _) (Nat.le_refl _) (c_M_of (ko := ko) (at0 := ((9 + (10 * ((w / 10) - 2))) + (w % 10))) hn hR rfl (by omega)) (m_go ?_)
      show AW _ _ _ _ _ _ _ _ [.int (oR I ko ((9 + (10 * ((w / 10) - 2))) + (w % 10)))] _ _ _ _
      refine a_goto (tgt := 160) dM_office_155 (by decide) ?_
      exact a_iret dM_office_160 rfl ⟨by unfold ansR ansW; rw [if_neg (show ¬ 100 ≤ w by omega), if_neg (show ¬ w < 10 by omega), if_neg (show ¬ w < 20 by omega), if_pos (show w % 10 < nl by omega), hs, ol_5], rfl, rfl, rfl⟩
  · refine a_tab (c := 6) (off := 104) (tgt := 129) dM_office_25 (by rw [hs]; rfl) (by decide) (by decide) (by decide) (by decide) ?_
    refine a_iload_n 0 dM_office_129 rfl rfl ?_
    refine a_aload_n 1 dM_office_130 rfl rfl ?_
    refine a_geti dM_office_131 fl12_262 rfl ly_95 (by omega) ?_
    rw [show (hdI (m_up I 95 0 (nI 0)) ko) 95 25 = (nI nl) from (by first | exact hh | exact hl)]
    refine a_icmp_geN (tgt := 158) dM_office_134 (by decide) (by omega) (by omega) (fun c134 => ?_) (fun c134 => ?_)
    · refine a_bipush (v := -2) dM_office_158 (by decide) ?_
      exact a_iret dM_office_160 rfl ⟨by unfold ansR ansW; rw [if_neg (show ¬ 100 ≤ w by omega), if_neg (show ¬ w < 10 by omega), if_neg (show ¬ w < 20 by omega), if_neg (show ¬ w % 10 < nl by omega)], rfl, rfl, rfl⟩
    · refine a_aload_n 1 dM_office_137 rfl rfl ?_
      refine a_bipushN (a := 9) dM_office_138 (by decide) ?_
      refine a_bipushN (a := 10) dM_office_140 (by decide) ?_
      refine a_iload_n 3 dM_office_142 rfl rfl ?_
      refine a_bipushN (a := 10) dM_office_143 (by decide) ?_
      refine a_idivN dM_office_145 (by omega) (by omega) (by omega) ?_
      refine a_iconstN (a := 2) dM_office_146 (by decide) ?_
      refine a_isubN dM_office_147 (by omega) ?_
      refine a_imulN (a := 10) (b := ((w / 10) - 2)) dM_office_148 ?_
      refine a_iaddN (a := 9) (b := (10 * ((w / 10) - 2))) dM_office_149 ?_
      refine a_iload_n 0 dM_office_150 rfl rfl ?_
      refine a_iaddN (a := (9 + (10 * ((w / 10) - 2)))) (b := (w % 10)) dM_office_151 ?_
      refine a_callV (Q' := m_res (some (.int (oR I ko ((9 + (10 * ((w / 10) - 2))) + (w % 10))))) (hdI (m_up I 95 0 (nI 0)) ko) J R) (as := [.int (nI ((9 + (10 * ((w / 10) - 2))) + (w % 10)))]) (st := []) dM_office_152 ml12_255 rfl (Nat.le_of_ble_eq_true rfl) ly_95 rfl rfl (by decide) (by omega) (Nat.le_of_ble_eq_true rfl) rfl (Nat.le_refl _) (Nat.le_refl _) (c_M_of (ko := ko) (at0 := ((9 + (10 * ((w / 10) - 2))) + (w % 10))) hn hR rfl (by omega)) (m_go ?_)
      show AW _ _ _ _ _ _ _ _ [.int (oR I ko ((9 + (10 * ((w / 10) - 2))) + (w % 10)))] _ _ _ _
      refine a_goto (tgt := 160) dM_office_155 (by decide) ?_
      exact a_iret dM_office_160 rfl ⟨by unfold ansR ansW; rw [if_neg (show ¬ 100 ≤ w by omega), if_neg (show ¬ w < 10 by omega), if_neg (show ¬ w < 20 by omega), if_pos (show w % 10 < nl by omega), hs, ol_6], rfl, rfl, rfl⟩
  · refine a_tab (c := 7) (off := 159) (tgt := 184) dM_office_25 (by rw [hs]; rfl) (by decide) (by decide) (by decide) (by decide) ?_
    refine a_bipush (v := -2) dM_office_184 (by decide) ?_
    exact a_iret dM_office_186 rfl ⟨by unfold ansR ansW; rw [if_neg (show ¬ 100 ≤ w by omega), if_neg (show ¬ w < 10 by omega), if_neg (show ¬ w < 20 by omega)]; split; rw [ol_o (by omega) (by omega)]; rfl, rfl, rfl, rfl⟩
  · refine a_tab (c := 8) (off := 159) (tgt := 184) dM_office_25 (by rw [hs]; rfl) (by decide) (by decide) (by decide) (by decide) ?_
    refine a_bipush (v := -2) dM_office_184 (by decide) ?_
    exact a_iret dM_office_186 rfl ⟨by unfold ansR ansW; rw [if_neg (show ¬ 100 ≤ w by omega), if_neg (show ¬ w < 10 by omega), if_neg (show ¬ w < 20 by omega)]; split; rw [ol_o (by omega) (by omega)]; rfl, rfl, rfl, rfl⟩
  · refine a_tab (c := 9) (off := 159) (tgt := 184) dM_office_25 (by rw [hs]; rfl) (by decide) (by decide) (by decide) (by decide) ?_
    refine a_bipush (v := -2) dM_office_184 (by decide) ?_
    exact a_iret dM_office_186 rfl ⟨by unfold ansR ansW; rw [if_neg (show ¬ 100 ≤ w by omega), if_neg (show ¬ w < 10 by omega), if_neg (show ¬ w < 20 by omega)]; split; rw [ol_o (by omega) (by omega)]; rfl, rfl, rfl, rfl⟩
  · refine a_tab (c := 10) (off := 136) (tgt := 161) dM_office_25 (by rw [hs]; rfl) (by decide) (by decide) (by decide) (by decide) ?_
    refine a_iload_n 3 dM_office_161 rfl rfl ?_
    refine a_bipushN (a := 116) dM_office_162 (by decide) ?_
    refine a_icmp_geN (tgt := 181) dM_office_164 (by decide) (by omega) (by omega) (fun c164 => ?_) (fun c164 => ?_)
    · refine a_bipush (v := -2) dM_office_181 (by decide) ?_
      exact a_iret dM_office_183 rfl ⟨by unfold ansR ansW; rw [if_pos (show 100 ≤ w by omega), if_neg (show ¬ w < 116 by omega)], rfl, rfl, rfl⟩
    · refine a_aload_n 1 dM_office_167 rfl rfl ?_
      refine a_bipushN (a := 59) dM_office_168 (by decide) ?_
      refine a_iload_n 3 dM_office_170 rfl rfl ?_
      refine a_iaddN (a := 59) (b := w) dM_office_171 ?_
      refine a_bipushN (a := 100) dM_office_172 (by decide) ?_
      refine a_isubN dM_office_174 (by omega) ?_
      refine a_callV (Q' := m_res (some (.int (oR I ko ((59 + w) - 100)))) (hdI (m_up I 95 0 (nI 0)) ko) J R) (as := [.int (nI ((59 + w) - 100))]) (st := []) dM_office_175 ml12_255 rfl (Nat.le_of_ble_eq_true rfl) ly_95 rfl rfl (by decide) (by omega) (Nat.le_of_ble_eq_true rfl) rfl (Nat.le_refl _) (Nat.le_refl _) (c_M_of (ko := ko) (at0 := ((59 + w) - 100)) hn hR rfl (by omega)) (m_go ?_)
      show AW _ _ _ _ _ _ _ _ [.int (oR I ko ((59 + w) - 100))] _ _ _ _
      refine a_goto (tgt := 183) dM_office_178 (by decide) ?_
      exact a_iret dM_office_183 rfl ⟨by unfold ansR ansW; rw [if_pos (show 100 ≤ w by omega), if_pos (show w < 116 by omega)]; exact congrArg (fun q => some (Value.int (oR I ko q))) (by omega), rfl, rfl, rfl⟩
  · refine a_tab (c := 11) (off := 136) (tgt := 161) dM_office_25 (by rw [hs]; rfl) (by decide) (by decide) (by decide) (by decide) ?_
    refine a_iload_n 3 dM_office_161 rfl rfl ?_
    refine a_bipushN (a := 116) dM_office_162 (by decide) ?_
    refine a_icmp_geN (tgt := 181) dM_office_164 (by decide) (by omega) (by omega) (fun c164 => ?_) (fun c164 => ?_)
    · refine a_bipush (v := -2) dM_office_181 (by decide) ?_
      exact a_iret dM_office_183 rfl ⟨by unfold ansR ansW; rw [if_pos (show 100 ≤ w by omega), if_neg (show ¬ w < 116 by omega)], rfl, rfl, rfl⟩
    · refine a_aload_n 1 dM_office_167 rfl rfl ?_
      refine a_bipushN (a := 59) dM_office_168 (by decide) ?_
      refine a_iload_n 3 dM_office_170 rfl rfl ?_
      refine a_iaddN (a := 59) (b := w) dM_office_171 ?_
      refine a_bipushN (a := 100) dM_office_172 (by decide) ?_
      refine a_isubN dM_office_174 (by omega) ?_
      refine a_callV (Q' := m_res (some (.int (oR I ko ((59 + w) - 100)))) (hdI (m_up I 95 0 (nI 0)) ko) J R) (as := [.int (nI ((59 + w) - 100))]) (st := []) dM_office_175 ml12_255 rfl (Nat.le_of_ble_eq_true rfl) ly_95 rfl rfl (by decide) (by omega) (Nat.le_of_ble_eq_true rfl) rfl (Nat.le_refl _) (Nat.le_refl _) (c_M_of (ko := ko) (at0 := ((59 + w) - 100)) hn hR rfl (by omega)) (m_go ?_)
      show AW _ _ _ _ _ _ _ _ [.int (oR I ko ((59 + w) - 100))] _ _ _ _
      refine a_goto (tgt := 183) dM_office_178 (by decide) ?_
      exact a_iret dM_office_183 rfl ⟨by unfold ansR ansW; rw [if_pos (show 100 ≤ w by omega), if_pos (show w < 116 by omega)]; exact congrArg (fun q => some (Value.int (oR I ko q))) (by omega), rfl, rfl, rfl⟩
  · refine a_tableOut (tgt := 184) dM_office_25 (Or.inr (by rw [nI_toInt (by omega)]; omega)) (by decide) ?_
    refine a_bipush (v := -2) dM_office_184 (by decide) ?_
    exact a_iret dM_office_186 rfl ⟨by unfold ansR ansW; rw [if_pos (show 100 ≤ w by omega), if_neg (show ¬ w < 116 by omega)], rfl, rfl, rfl⟩
theorem m_div10 {x : Int32} (h : x < 0) : (x / 10).toInt ≤ 0 := by
  have h1 := Int32.lt_iff_toInt_lt.mp h
  have e0 : (0 : Int32).toInt = 0 := rfl
  have e10 : (10 : Int32).toInt = 10 := rfl
  have hlo := Int32.le_toInt x
  rw [Int32.toInt_div, e10]
  have h3 : x.toInt.tdiv 10 = -((-x.toInt).tdiv 10) := by rw [Int.neg_tdiv, Int.neg_neg]
  have h4 : 0 ≤ (-x.toInt).tdiv 10 := Int.tdiv_nonneg (by omega) (by omega)
  have h5 : (-x.toInt).tdiv 10 ≤ -x.toInt := by
    rw [Int.tdiv_eq_ediv_of_nonneg (by omega)]
    omega
  rw [h3, Int.bmod_eq_of_le (by omega) (by omega)]
  omega
theorem f_in_neg {x hi : Int32} (h : x < 0) : f_in x 0 hi = 0 := by unfold f_in; rw [if_pos h]
theorem c_M_officeM {S : Nat × (Nat → Int32)} {d n : Nat} {I : mI} {J : mJ} {R : mR} (hn : 122 ≤ n) (hR : m_fin R) {ko : Nat} (h1 : f_in (nI ko) 0 (I 100 0 - 1) = 1) (hk : ko < 2) {x : Int32} (hx : x < 0) : RUN S (d + 3) YM_office [.ref 95, .int (nI ko), .int x] I J R n (some (.int (-2))) (hdI (cdI I) ko) J R n := by
  show AW S _ YM_office n n _ 0 [(0, .ref 95), (1, .int (nI ko)), (2, .int x)] [] I J R n
  refine a_aload_n 0 dM_office_0 rfl rfl ?_
  refine a_iconst (v := 0) dM_office_1 (by decide) ?_
  refine a_puti dM_office_2 fl12_90 rfl ly_95 (by omega) ?_
  refine a_aload_n 0 dM_office_5 rfl rfl ?_
  refine a_iload_n 1 dM_office_6 rfl rfl ?_
  refine a_callV (Q' := m_res (some (.int 1)) (hdI (m_up I 95 0 0) ko) J R) (as := [.int (nI ko)]) (st := []) dM_office_7 ml12_277 rfl (Nat.le_of_ble_eq_true rfl) ly_95 rfl rfl (by decide) (by omega) (Nat.le_of_ble_eq_true rfl) rfl (Nat.le_refl _) (Nat.le_refl _) (c_M_hand hn hR (by omega) h1) (m_go ?_)
  show AW _ _ _ _ _ _ _ _ [.int 1] _ _ _ _
  refine a_if_ne (tgt := 16) dM_office_10 (by decide) (fun _ => ?_) (fun c => False.elim (absurd c (by decide)))
  refine a_iload_n 2 dM_office_16 rfl rfl ?_
  refine a_bipush (v := 10) dM_office_17 (by decide) ?_
  refine a_irem dM_office_19 (by decide) ?_
  refine a_istore_n (lv' := [(3, .int (x - x / 10 * 10)), (0, .ref 95), (1, .int (nI ko)), (2, .int x)]) dM_office_20 rfl (by decide) rfl ?_
  refine a_iload_n 3 dM_office_21 rfl rfl ?_
  refine a_bipush (v := 10) dM_office_22 (by decide) ?_
  refine a_idiv dM_office_24 (by decide) ?_
  by_cases hs : x / 10 = 0
  · refine a_tab (off := 63) (tgt := 88) dM_office_25 hs (by decide) (by decide) (by decide) (by decide) ?_
    refine a_iload_n 3 dM_office_88 rfl rfl ?_
    refine a_iconst (v := 0) dM_office_89 (by decide) ?_
    refine a_iconst (v := 2) dM_office_90 (by decide) ?_
    refine a_callS (Q' := m_res (some (.int (f_in x 0 2))) (hdI (m_up I 95 0 0) ko) J R) (as := [.int x, .int 0, .int 2]) (st := []) dM_office_91 ml12_102 rfl (Nat.le_of_ble_eq_true rfl) (Nat.le_of_ble_eq_true rfl) rfl (Nat.le_refl _) (Nat.le_refl _) c_M_in (m_go ?_)
    show AW _ _ _ _ _ _ _ _ [.int (f_in x 0 2)] _ _ _ _
    refine a_if_eq (tgt := 105) dM_office_94 (by decide) (fun _ => ?_) (fun c => False.elim (c (f_in_neg hx)))
    refine a_bipush (v := -2) dM_office_105 (by decide) ?_
    exact a_iret dM_office_107 rfl ⟨rfl, rfl, rfl, rfl⟩
  · refine a_tableOut (tgt := 184) dM_office_25 (Or.inl (by have h1 := m_div10 hx; have h2 : (x / 10).toInt ≠ 0 := fun c => hs (Int32.toInt_inj.mp c); omega)) (by decide) ?_
    refine a_bipush (v := -2) dM_office_184 (by decide) ?_
    exact a_iret dM_office_186 rfl ⟨rfl, rfl, rfl, rfl⟩
theorem c_M_doing0 {S : Nat × (Nat → Int32)} {d n : Nat} {I : mI} {J : mJ} {R : mR} (hn : 122 ≤ n) (hR : m_fin R) {x y z : Int32} (h0 : f_in x 0 (I 100 0 - 1) = 0) : RUN S (d + 4) YM_doing [.ref 95, .int x, .int y, .int z] I J R n (some (.int (-1000))) (cdI I) J R n := by
  show AW S _ YM_doing n n _ 0 [(0, .ref 95), (1, .int x), (2, .int y), (3, .int z)] [] I J R n
  refine a_aload_n 0 dM_doing_0 rfl rfl ?_
  refine a_iconst (v := 0) dM_doing_1 (by decide) ?_
  refine a_puti dM_doing_2 fl12_90 rfl ly_95 (by omega) ?_
  refine a_aload_n 0 dM_doing_5 rfl rfl ?_
  refine a_iload_n 1 dM_doing_6 rfl rfl ?_
  refine a_callV (Q' := m_res (some (.int 0)) (m_up I 95 0 0) J R) (as := [.int x]) (st := []) dM_doing_7 ml12_277 rfl (Nat.le_of_ble_eq_true rfl) ly_95 rfl rfl (by decide) (by omega) (Nat.le_of_ble_eq_true rfl) rfl (Nat.le_refl _) (Nat.le_refl _) (c_M_hand0 hn hR h0) (m_go ?_)
  show AW _ _ _ _ _ _ _ _ [.int 0] _ _ _ _
  refine a_if_eq (tgt := 39) dM_doing_10 (by decide) (fun _ => ?_) (fun c => False.elim (c rfl))
  refine a_sipush (v := -1000) dM_doing_39 (by decide) ?_
  exact a_iret dM_doing_42 rfl ⟨rfl, rfl, rfl, rfl⟩
theorem hd_23 {I : mI} {ko : Nat} : hdI I ko 95 23 = nI ko := rfl
theorem hd_24 {I : mI} {ko : Nat} : hdI I ko 95 24 = oR I ko 0 := rfl
theorem hd_25 {I : mI} {ko : Nat} : hdI I ko 95 25 = oR I ko 1 := rfl
theorem hd_30 {I : mI} {ko : Nat} : hdI I ko 95 30 = -1 := rfl
theorem hd_o {I : mI} {ko a : Nat} (h : a ≠ 95) (h6 : a ≠ 106) (h7 : a ≠ 107) (h8 : a ≠ 108) (h9 : a ≠ 109) : hdI I ko a = I a := by
  unfold hdI bgI bgK hdK hdF
  rw [m_row_ne h9, m_row_ne h8, m_row_ne h7, m_row_ne h6, m_up_ne h, m_up_ne h, m_up_ne h, m_up_ne h]
theorem hd_101 {I : mI} {ko : Nat} : hdI I ko 101 = I 101 := hd_o (by decide) (by decide) (by decide) (by decide) (by decide)
theorem hd_oR {I : mI} {ko k : Nat} : oR (hdI I ko) k = oR I k := by funext a; unfold oR; rw [hd_101]
theorem cd_oR {I : mI} {k : Nat} : oR (cdI I) k = oR I k := rfl
theorem c_M_doing1 {S : Nat × (Nat → Int32)} {d n : Nat} {I : mI} {J : mJ} {R : mR} (hn : 122 ≤ n) (hR : m_fin R) {ko : Nat} (h1 : f_in (nI ko) 0 (I 100 0 - 1) = 1) (hk : ko < 2) {y z : Int32} (hy : f_in y 0 (oR I ko 1 - 1) = 0 ∨ f_in z (-1) 3 = 0) : RUN S (d + 4) YM_doing [.ref 95, .int (nI ko), .int y, .int z] I J R n (some (.int (-1000))) (hdI (cdI I) ko) J R n := by
  show AW S _ YM_doing n n _ 0 [(0, .ref 95), (1, .int (nI ko)), (2, .int y), (3, .int z)] [] I J R n
  refine a_aload_n 0 dM_doing_0 rfl rfl ?_
  refine a_iconst (v := 0) dM_doing_1 (by decide) ?_
  refine a_puti dM_doing_2 fl12_90 rfl ly_95 (by omega) ?_
  refine a_aload_n 0 dM_doing_5 rfl rfl ?_
  refine a_iload_n 1 dM_doing_6 rfl rfl ?_
  refine a_callV (Q' := m_res (some (.int 1)) (hdI (m_up I 95 0 0) ko) J R) (as := [.int (nI ko)]) (st := []) dM_doing_7 ml12_277 rfl (Nat.le_of_ble_eq_true rfl) ly_95 rfl rfl (by decide) (by omega) (Nat.le_of_ble_eq_true rfl) rfl (Nat.le_refl _) (Nat.le_refl _) (c_M_hand hn hR (by omega) h1) (m_go ?_)
  show AW _ _ _ _ _ _ _ _ [.int 1] _ _ _ _
  refine a_if_eq (tgt := 39) dM_doing_10 (by decide) (fun c => False.elim (absurd c (by decide))) (fun _ => ?_)
  refine a_aload_n 0 dM_doing_13 rfl rfl ?_
  refine a_iload_n 2 dM_doing_14 rfl rfl ?_
  refine a_callV (Q' := m_res (some (.int (f_in y 0 (oR I ko 1 - 1)))) (hdI (m_up I 95 0 0) ko) J R) (as := [.int y]) (st := []) dM_doing_15 ml12_280 rfl (Nat.le_of_ble_eq_true rfl) ly_95 rfl rfl (by decide) (by omega) (Nat.le_of_ble_eq_true rfl) rfl (Nat.le_refl _) (Nat.le_refl _) (by have h := c_M_isLetter (S := S) (d := d + 2) (I := hdI (cdI I) ko) (J := J) (R := R) (h := y) hn; rw [hd_25, cd_oR] at h; exact h) (m_go ?_)
  show AW _ _ _ _ _ _ _ _ [.int (f_in y 0 (oR I ko 1 - 1))] _ _ _ _
  refine a_if_eq (tgt := 39) dM_doing_18 (by decide) (fun c18 => ?_) (fun c18 => ?_)
  · refine a_sipush (v := -1000) dM_doing_39 (by decide) ?_
    exact a_iret dM_doing_42 rfl ⟨rfl, rfl, rfl, rfl⟩
  · refine a_iload_n 3 dM_doing_21 rfl rfl ?_
    refine a_iconst (v := -1) dM_doing_22 (by decide) ?_
    refine a_iconst (v := 3) dM_doing_23 (by decide) ?_
    refine a_callS (Q' := m_res (some (.int (f_in z (-1) 3))) (hdI (m_up I 95 0 0) ko) J R) (as := [.int z, .int (-1), .int 3]) (st := []) dM_doing_24 ml12_102 rfl (Nat.le_of_ble_eq_true rfl) (Nat.le_of_ble_eq_true rfl) rfl (Nat.le_refl _) (Nat.le_refl _) c_M_in (m_go ?_)
    show AW _ _ _ _ _ _ _ _ [.int (f_in z (-1) 3)] _ _ _ _
    refine a_if_eq (tgt := 39) dM_doing_27 (by decide) (fun c27 => ?_) (fun c27 => ?_)
    · refine a_sipush (v := -1000) dM_doing_39 (by decide) ?_
      exact a_iret dM_doing_42 rfl ⟨rfl, rfl, rfl, rfl⟩
    · refine a_aload_n 0 dM_doing_30 rfl rfl ?_
      refine a_iload_n 2 dM_doing_31 rfl rfl ?_
      refine a_iload_n 3 dM_doing_32 rfl rfl ?_
      refine a_callV (Q' := m_res (some (.int (-1000))) (hdI (m_up I 95 0 0) ko) J R) (as := [.int y, .int z]) (st := []) dM_doing_33 ml12_283 rfl (Nat.le_of_ble_eq_true rfl) ly_95 rfl rfl (by decide) (by omega) (Nat.le_of_ble_eq_true rfl) rfl (Nat.le_refl _) (Nat.le_refl _) (by exfalso; rcases hy with h | h; exact c18 h; exact c27 h) (m_go ?_)
      show AW _ _ _ _ _ _ _ _ [.int (-1000)] _ _ _ _
      refine a_goto (tgt := 42) dM_doing_36 (by decide) ?_
      exact a_iret dM_doing_42 rfl ⟨rfl, rfl, rfl, rfl⟩
/-- what a letter does in an office of the reference at hand, no law left out -/
abbrev dsA (I : mI) (ko l : Nat) (x : Int32) : Int32 := dsy (bsR I ko) (fun l => oR I ko (19 + l)) (fun j => oR I ko (59 + j)) (-1) l x
theorem WFk.hd {I : mI} {ko : Nat} (h : WFk I ko) : WFk (hdI (cdI I) ko) ko := by
  unfold WFk kdN
  rw [hd_oR, cd_oR]
  exact h
theorem dsR_hd {I : mI} {ko l : Nat} {x : Int32} : dsR (hdI (cdI I) ko) ko l x = dsA I ko l x := by
  unfold dsR dsA bsR
  rw [hd_30, hd_oR, cd_oR]
theorem c_M_doing2 {S : Nat × (Nat → Int32)} {d n : Nat} {I : mI} {J : mJ} {R : mR} (hn : 122 ≤ n) (hR : m_fin R) {ko : Nat} (h1 : f_in (nI ko) 0 (I 100 0 - 1) = 1) (hk : ko < 2) {l : Nat} {z : Int32} (hl : l < 10) (hW : WFk I ko) (hz : kOK z) (hy : f_in (nI l) 0 (oR I ko 1 - 1) = 1) (hz2 : f_in z (-1) 3 = 1) : RUN S (d + 4) YM_doing [.ref 95, .int (nI ko), .int (nI l), .int z] I J R n (some (.int (dsA I ko l z))) (hdI (cdI I) ko) J R n := by
  show AW S _ YM_doing n n _ 0 [(0, .ref 95), (1, .int (nI ko)), (2, .int (nI l)), (3, .int z)] [] I J R n
  refine a_aload_n 0 dM_doing_0 rfl rfl ?_
  refine a_iconst (v := 0) dM_doing_1 (by decide) ?_
  refine a_puti dM_doing_2 fl12_90 rfl ly_95 (by omega) ?_
  refine a_aload_n 0 dM_doing_5 rfl rfl ?_
  refine a_iload_n 1 dM_doing_6 rfl rfl ?_
  refine a_callV (Q' := m_res (some (.int 1)) (hdI (m_up I 95 0 0) ko) J R) (as := [.int (nI ko)]) (st := []) dM_doing_7 ml12_277 rfl (Nat.le_of_ble_eq_true rfl) ly_95 rfl rfl (by decide) (by omega) (Nat.le_of_ble_eq_true rfl) rfl (Nat.le_refl _) (Nat.le_refl _) (c_M_hand hn hR (by omega) h1) (m_go ?_)
  show AW _ _ _ _ _ _ _ _ [.int 1] _ _ _ _
  refine a_if_eq (tgt := 39) dM_doing_10 (by decide) (fun c => False.elim (absurd c (by decide))) (fun _ => ?_)
  refine a_aload_n 0 dM_doing_13 rfl rfl ?_
  refine a_iload_n 2 dM_doing_14 rfl rfl ?_
  refine a_callV (Q' := m_res (some (.int (f_in (nI l) 0 (oR I ko 1 - 1)))) (hdI (m_up I 95 0 0) ko) J R) (as := [.int (nI l)]) (st := []) dM_doing_15 ml12_280 rfl (Nat.le_of_ble_eq_true rfl) ly_95 rfl rfl (by decide) (by omega) (Nat.le_of_ble_eq_true rfl) rfl (Nat.le_refl _) (Nat.le_refl _) (by have h := c_M_isLetter (S := S) (d := d + 2) (I := hdI (cdI I) ko) (J := J) (R := R) (h := (nI l)) hn; rw [hd_25, cd_oR] at h; exact h) (m_go ?_)
  show AW _ _ _ _ _ _ _ _ [.int (f_in (nI l) 0 (oR I ko 1 - 1))] _ _ _ _
  refine a_if_eq (tgt := 39) dM_doing_18 (by decide) (fun c => False.elim (by rw [hy] at c; exact absurd c (by decide))) (fun _ => ?_)
  refine a_iload_n 3 dM_doing_21 rfl rfl ?_
  refine a_iconst (v := -1) dM_doing_22 (by decide) ?_
  refine a_iconst (v := 3) dM_doing_23 (by decide) ?_
  refine a_callS (Q' := m_res (some (.int (f_in z (-1) 3))) (hdI (m_up I 95 0 0) ko) J R) (as := [.int z, .int (-1), .int 3]) (st := []) dM_doing_24 ml12_102 rfl (Nat.le_of_ble_eq_true rfl) (Nat.le_of_ble_eq_true rfl) rfl (Nat.le_refl _) (Nat.le_refl _) c_M_in (m_go ?_)
  show AW _ _ _ _ _ _ _ _ [.int (f_in z (-1) 3)] _ _ _ _
  refine a_if_eq (tgt := 39) dM_doing_27 (by decide) (fun c => False.elim (by rw [hz2] at c; exact absurd c (by decide))) (fun _ => ?_)
  refine a_aload_n 0 dM_doing_30 rfl rfl ?_
  refine a_iload_n 2 dM_doing_31 rfl rfl ?_
  refine a_iload_n 3 dM_doing_32 rfl rfl ?_
  refine a_callV (Q' := m_res (some (.int (dsA I ko l z))) (hdI (m_up I 95 0 0) ko) J R) (as := [.int (nI l), .int z]) (st := []) dM_doing_33 ml12_283 rfl (Nat.le_of_ble_eq_true rfl) ly_95 rfl rfl (by decide) (by omega) (Nat.le_of_ble_eq_true rfl) rfl (Nat.le_refl _) (Nat.le_refl _) (by have h := c_M_doesBy (S := S) (d := d) (J := J) hn hR (hd_23 (I := cdI I)) (by omega) hl hW.hd hz; rw [dsR_hd] at h; exact h) (m_go ?_)
  show AW _ _ _ _ _ _ _ _ [.int (dsA I ko l z)] _ _ _ _
  refine a_goto (tgt := 42) dM_doing_36 (by decide) ?_
  exact a_iret dM_doing_42 rfl ⟨rfl, rfl, rfl, rfl⟩
