abbrev iwP (T : Nat → Int32) (s b e i : Nat) : Prop := s = 1 ∧ e - b = m_lens.getD i 0 ∧ ∀ j, j < m_lens.getD i 0 → T (b + j) = (m_byts.getD i []).getD j 0
abbrev iwV (T : Nat → Int32) (s b e i : Nat) : Int32 := if iwP T s b e i then 1 else 0
theorem l_isw {S : Nat × (Nat → Int32)} {d n : Nat} {I : mI} {J : mJ} {R : mR} (hn : 122 ≤ n) (hR : m_fin R) (hRt : R 40 5 = some 2) {F : Nat → Int32} {s b e : Nat} (h7 : F 7 = nI s) (h8 : F 8 = nI b) (h9 : F 9 = nI e) (hs : s ≤ 4) (hbe : b ≤ e) (he6 : e ≤ 600) {i : Nat} (hi : i < 19) (hle : e - b = (m_lens.getD i 0))  {Q : Option Value → mI → mJ → mR → Prop} (h0 : ∀ k, k < (m_lens.getD i 0) → ¬ ((I 2 (b + k)) = ((m_byts.getD i []).getD k 0)) → Q (some (.int 0)) (m_row I 40 F) J R) (hx : (∀ k, k < (m_lens.getD i 0) → (I 2 (b + k)) = ((m_byts.getD i []).getD k 0)) → AW S (d + 4) YReader_isWord n n Q 63 [(2, .int (nI (m_lens.getD i 0))), (0, .ref 40), (1, .ref (1000010 + i))] [] (m_row I 40 F) J R n) : ∀ m k, k + m = (m_lens.getD i 0) → (∀ j, j < k → (I 2 (b + j)) = ((m_byts.getD i []).getD j 0)) → AW S (d + 4) YReader_isWord n n Q 28 [(2, .int (nI k)), (0, .ref 40), (1, .ref (1000010 + i))] [] (m_row I 40 F) J R n := by
  intro m
  induction m with
  | zero =>
    intro k hk9 hp
    rw [show k = (m_lens.getD i 0) by omega] at hp ⊢
    refine a_iload_n 0 dReader_isWord_28 rfl rfl ?_
    refine a_aload_n 2 dReader_isWord_29 rfl rfl ?_
    refine a_callT (Q' := m_res (some (.int (nI (m_lens.getD i 0)))) (m_row I 40 F) J R) (as := []) (st := [.int (nI (m_lens.getD i 0))]) dReader_isWord_30 ml7_131 rfl hi rfl (Nat.le_of_ble_eq_true rfl) (Nat.le_of_ble_eq_true rfl) rfl (Nat.le_refl _) (Nat.le_refl _) (c_String_length hi) (m_go ?_)
    show AW _ _ _ _ _ _ _ _ [.int (nI (m_lens.getD i 0)), .int (nI (m_lens.getD i 0))] _ _ _ _
    refine a_icmp_geN (tgt := 63) dReader_isWord_33 (by decide) (by omega) (by omega) (fun _ => ?_) (fun c => False.elim (by omega))
    exact hx hp
  | succ m ih =>
    intro k hk9 hp
    have hl7 := st_ln i hi
    refine a_iload_n 0 dReader_isWord_28 rfl rfl ?_
    refine a_aload_n 2 dReader_isWord_29 rfl rfl ?_
    refine a_callT (Q' := m_res (some (.int (nI (m_lens.getD i 0)))) (m_row I 40 F) J R) (as := []) (st := [.int (nI k)]) dReader_isWord_30 ml7_131 rfl hi rfl (Nat.le_of_ble_eq_true rfl) (Nat.le_of_ble_eq_true rfl) rfl (Nat.le_refl _) (Nat.le_refl _) (c_String_length hi) (m_go ?_)
    show AW _ _ _ _ _ _ _ _ [.int (nI (m_lens.getD i 0)), .int (nI k)] _ _ _ _
    refine a_icmp_geN (tgt := 63) dReader_isWord_33 (by decide) (by omega) (by omega) (fun c => False.elim (by omega)) (fun _ => ?_)
    refine a_aload_n 1 dReader_isWord_36 rfl rfl ?_
    refine a_geta (r := 2) dReader_isWord_37 fl7_77 rfl ly_40 (by omega) hRt ?_
    refine a_aload_n 1 dReader_isWord_40 rfl rfl ?_
    refine a_geti dReader_isWord_41 fl7_63 rfl ly_40 (by omega) ?_
    rw [show (m_row I 40 F) 40 8 = (nI b) from h8]
    refine a_iload_n 0 dReader_isWord_44 rfl rfl ?_
    refine a_iaddN (a := b) (b := k) dReader_isWord_45 ?_
    refine a_baldN (a := (b + k)) dReader_isWord_46 ly_2 (by omega) (by omega) (by decide) (fun hb46 => ?_)
    rw [show (m_row I 40 F) 2 (b + k) = I 2 (b + k) from rfl]
    refine a_aload_n 2 dReader_isWord_47 rfl rfl ?_
    refine a_iload_n 0 dReader_isWord_48 rfl rfl ?_
    refine a_callT (Q' := m_res (some (.int ((m_byts.getD i []).getD k 0))) (m_row I 40 F) J R) (as := [.int (nI k)]) (st := [.int (I 2 (b + k))]) dReader_isWord_49 ml7_136 rfl hi rfl (Nat.le_of_ble_eq_true rfl) (Nat.le_of_ble_eq_true rfl) rfl (Nat.le_refl _) (Nat.le_refl _) (c_String_charAt hi (j := k) (by omega)) (m_go ?_)
    show AW _ _ _ _ _ _ _ _ [.int ((m_byts.getD i []).getD k 0), .int (I 2 (b + k))] _ _ _ _
    refine a_icmp_eq (tgt := 57) dReader_isWord_52 (by decide) (fun c52 => ?_) (fun c52 => ?_)
    · refine a_iincN (lv' := [(2, .int (nI (k + 1))), (0, .ref 40), (1, .ref (1000010 + i))]) (j := 0) dReader_isWord_57 rfl (by decide) rfl ?_
      refine a_goto (tgt := 28) dReader_isWord_60 (by decide) ?_
      exact ih (k + 1) (by omega) (fun j hj => by
        rcases Nat.lt_or_eq_of_le (Nat.le_of_lt_succ hj) with h1 | h1
        · exact hp j h1
        · subst h1; exact c52)
    · refine a_iconstN (a := 0) dReader_isWord_55 (by decide) ?_
      exact a_zret dReader_isWord_56 rfl (by rfl) (h0 k (by omega) (fun q => absurd q c52))
theorem c_isWord {S : Nat × (Nat → Int32)} {d n : Nat} {I : mI} {J : mJ} {R : mR} (hn : 122 ≤ n) (hR : m_fin R) (hRt : R 40 5 = some 2) {F : Nat → Int32} {s b e : Nat} (h7 : F 7 = nI s) (h8 : F 8 = nI b) (h9 : F 9 = nI e) (hs : s ≤ 4) (hbe : b ≤ e) (he6 : e ≤ 600) {i : Nat} (hi : i < 19)  : RUN S (d + 4) YReader_isWord [.ref 40, .ref (1000010 + i)] (m_row I 40 F) J R n (some (.int (iwV (I 2) s b e i))) (m_row I 40 F) J R n := by
  show AW S _ YReader_isWord n n _ 0 [(0, .ref 40), (1, .ref (1000010 + i))] [] (m_row I 40 F) J R n
  have hl7 := st_ln i hi
  refine a_aload_n 0 dReader_isWord_0 rfl rfl ?_
  refine a_geti dReader_isWord_1 fl7_53 rfl ly_40 (by omega) ?_
  rw [show (m_row I 40 F) 40 7 = (nI s) from h7]
  refine a_iconstN (a := 1) dReader_isWord_4 (by decide) ?_
  refine a_icmp_neN (tgt := 24) dReader_isWord_5 (by decide) (by omega) (by omega) (fun c5 => ?_) (fun c5 => ?_)
  · refine a_iconstN (a := 0) dReader_isWord_24 (by decide) ?_
    exact a_zret dReader_isWord_25 rfl (by rfl) ⟨by unfold iwV; rw [if_neg (show ¬ iwP (I 2) s b e i from fun q => by have q1 := q.1; have q2 := q.2.1; omega)]; rfl, rfl, rfl, rfl⟩
  · refine a_aload_n 0 dReader_isWord_8 rfl rfl ?_
    refine a_geti dReader_isWord_9 fl7_90 rfl ly_40 (by omega) ?_
    rw [show (m_row I 40 F) 40 9 = (nI e) from h9]
    refine a_aload_n 0 dReader_isWord_12 rfl rfl ?_
    refine a_geti dReader_isWord_13 fl7_63 rfl ly_40 (by omega) ?_
    rw [show (m_row I 40 F) 40 8 = (nI b) from h8]
    refine a_isubN dReader_isWord_16 hbe ?_
    refine a_aload_n 1 dReader_isWord_17 rfl rfl ?_
    refine a_callT (Q' := m_res (some (.int (nI (m_lens.getD i 0)))) (m_row I 40 F) J R) (as := []) (st := [.int (nI (e - b))]) dReader_isWord_18 ml7_131 rfl hi rfl (Nat.le_of_ble_eq_true rfl) (Nat.le_of_ble_eq_true rfl) rfl (Nat.le_refl _) (Nat.le_refl _) (c_String_length hi) (m_go ?_)
    show AW _ _ _ _ _ _ _ _ [.int (nI (m_lens.getD i 0)), .int (nI (e - b))] _ _ _ _
    refine a_icmp_eqN (tgt := 26) dReader_isWord_21 (by decide) (by omega) (by omega) (fun c21 => ?_) (fun c21 => ?_)
    · refine a_iconstN (a := 0) dReader_isWord_26 (by decide) ?_
      refine a_istore_n (lv' := [(2, .int (nI 0)), (0, .ref 40), (1, .ref (1000010 + i))]) dReader_isWord_27 rfl (by decide) rfl ?_
      refine a_locs (lv' := [(2, .int (nI 0)), (0, .ref 40), (1, .ref (1000010 + i))]) [0, 1, 2] rfl ?_
      refine l_isw hn hR hRt h7 h8 h9 hs hbe he6 hi (by omega) (fun k hk2 hp => ?_) (fun hp => ?_) (m_lens.getD i 0) 0 (by omega) (fun j hj => absurd hj (Nat.not_lt_zero _))
      · exact ⟨by unfold iwV; rw [if_neg (fun q => hp (q.2.2 k hk2))], rfl, rfl, rfl⟩
      · refine a_iconstN (a := 1) dReader_isWord_63 (by decide) ?_
        exact a_zret dReader_isWord_64 rfl (by rfl) ⟨by unfold iwV; rw [if_pos ⟨by omega, by omega, hp⟩]; rfl, rfl, rfl, rfl⟩
    · refine a_iconstN (a := 0) dReader_isWord_24 (by decide) ?_
      exact a_zret dReader_isWord_25 rfl (by rfl) ⟨by unfold iwV; rw [if_neg (show ¬ iwP (I 2) s b e i from fun q => by have q1 := q.1; have q2 := q.2.1; omega)]; rfl, rfl, rfl, rfl⟩
def khC (T : Nat → Int32) (s b e : Nat) : Int32 := (if iwV T s b e 15 = 0 then (if iwV T s b e 16 = 0 then (if iwV T s b e 17 = 0 then (if iwV T s b e 18 = 0 then -1 else nI 3) else nI 2) else nI 1) else nI 0)
theorem c_kindAtHand {S : Nat × (Nat → Int32)} {d n : Nat} {I : mI} {J : mJ} {R : mR} (hn : 122 ≤ n) (hR : m_fin R) (hRt : R 40 5 = some 2) {F : Nat → Int32} {s b e : Nat} (h7 : F 7 = nI s) (h8 : F 8 = nI b) (h9 : F 9 = nI e) (hs : s ≤ 4) (hbe : b ≤ e) (he6 : e ≤ 600)  : RUN S (d + 5) YReader_kindAtHand [.ref 40] (m_row I 40 F) J R n (some (.int (khC (I 2) s b e))) (m_row I 40 F) J R n := by
  show AW S _ YReader_kindAtHand n n _ 0 [(0, .ref 40)] [] (m_row I 40 F) J R n
  refine a_aload_n 0 dReader_kindAtHand_0 rfl rfl ?_
  refine a_ldcS (i := 15) dReader_kindAtHand_1 rfl rfl ?_
  refine a_callV (Q' := m_res (some (.int (iwV (I 2) s b e 15))) (m_row I 40 F) J R) (as := [.ref (1000010 + 15)]) (st := []) dReader_kindAtHand_3 ml7_163 rfl (Nat.le_of_ble_eq_true rfl) ly_40 rfl rfl (by decide) (by omega) (Nat.le_of_ble_eq_true rfl) rfl (Nat.le_refl _) (Nat.le_refl _) (c_isWord hn hR hRt h7 h8 h9 hs hbe he6 (i := 15) (by decide)) (m_go ?_)
  show AW _ _ _ _ _ _ _ _ [.int (iwV (I 2) s b e 15)] _ _ _ _
  refine a_if_eq (tgt := 11) dReader_kindAtHand_6 (by decide) (fun c6 => ?_) (fun c6 => ?_)
  · refine a_aload_n 0 dReader_kindAtHand_11 rfl rfl ?_
    refine a_ldcS (i := 16) dReader_kindAtHand_12 rfl rfl ?_
    refine a_callV (Q' := m_res (some (.int (iwV (I 2) s b e 16))) (m_row I 40 F) J R) (as := [.ref (1000010 + 16)]) (st := []) dReader_kindAtHand_14 ml7_163 rfl (Nat.le_of_ble_eq_true rfl) ly_40 rfl rfl (by decide) (by omega) (Nat.le_of_ble_eq_true rfl) rfl (Nat.le_refl _) (Nat.le_refl _) (c_isWord hn hR hRt h7 h8 h9 hs hbe he6 (i := 16) (by decide)) (m_go ?_)
    show AW _ _ _ _ _ _ _ _ [.int (iwV (I 2) s b e 16)] _ _ _ _
    refine a_if_eq (tgt := 22) dReader_kindAtHand_17 (by decide) (fun c17 => ?_) (fun c17 => ?_)
    · refine a_aload_n 0 dReader_kindAtHand_22 rfl rfl ?_
      refine a_ldcS (i := 17) dReader_kindAtHand_23 rfl rfl ?_
      refine a_callV (Q' := m_res (some (.int (iwV (I 2) s b e 17))) (m_row I 40 F) J R) (as := [.ref (1000010 + 17)]) (st := []) dReader_kindAtHand_25 ml7_163 rfl (Nat.le_of_ble_eq_true rfl) ly_40 rfl rfl (by decide) (by omega) (Nat.le_of_ble_eq_true rfl) rfl (Nat.le_refl _) (Nat.le_refl _) (c_isWord hn hR hRt h7 h8 h9 hs hbe he6 (i := 17) (by decide)) (m_go ?_)
      show AW _ _ _ _ _ _ _ _ [.int (iwV (I 2) s b e 17)] _ _ _ _
      refine a_if_eq (tgt := 33) dReader_kindAtHand_28 (by decide) (fun c28 => ?_) (fun c28 => ?_)
      · refine a_aload_n 0 dReader_kindAtHand_33 rfl rfl ?_
        refine a_ldcS (i := 18) dReader_kindAtHand_34 rfl rfl ?_
        refine a_callV (Q' := m_res (some (.int (iwV (I 2) s b e 18))) (m_row I 40 F) J R) (as := [.ref (1000010 + 18)]) (st := []) dReader_kindAtHand_36 ml7_163 rfl (Nat.le_of_ble_eq_true rfl) ly_40 rfl rfl (by decide) (by omega) (Nat.le_of_ble_eq_true rfl) rfl (Nat.le_refl _) (Nat.le_refl _) (c_isWord hn hR hRt h7 h8 h9 hs hbe he6 (i := 18) (by decide)) (m_go ?_)
        show AW _ _ _ _ _ _ _ _ [.int (iwV (I 2) s b e 18)] _ _ _ _
        refine a_if_eq (tgt := 46) dReader_kindAtHand_39 (by decide) (fun c39 => ?_) (fun c39 => ?_)
        · refine a_iconst (v := -1) dReader_kindAtHand_46 (by decide) ?_
          exact a_iret dReader_kindAtHand_47 rfl ⟨by unfold khC; rw [if_pos c6, if_pos c17, if_pos c28, if_pos c39], rfl, rfl, rfl⟩
        · refine a_iconstN (a := 3) dReader_kindAtHand_42 (by decide) ?_
          refine a_goto (tgt := 47) dReader_kindAtHand_43 (by decide) ?_
          exact a_iret dReader_kindAtHand_47 rfl ⟨by unfold khC; rw [if_pos c6, if_pos c17, if_pos c28, if_neg c39], rfl, rfl, rfl⟩
      · refine a_iconstN (a := 2) dReader_kindAtHand_31 (by decide) ?_
        exact a_iret dReader_kindAtHand_32 rfl ⟨by unfold khC; rw [if_pos c6, if_pos c17, if_neg c28], rfl, rfl, rfl⟩
    · refine a_iconstN (a := 1) dReader_kindAtHand_20 (by decide) ?_
      exact a_iret dReader_kindAtHand_21 rfl ⟨by unfold khC; rw [if_pos c6, if_neg c17], rfl, rfl, rfl⟩
  · refine a_iconstN (a := 0) dReader_kindAtHand_9 (by decide) ?_
    exact a_iret dReader_kindAtHand_10 rfl ⟨by unfold khC; rw [if_neg c6], rfl, rfl, rfl⟩
def olC (T : Nat → Int32) (s b e : Nat) : Int32 := (if iwV T s b e 0 = 0 then (if iwV T s b e 1 = 0 then (if iwV T s b e 2 = 0 then (if iwV T s b e 3 = 0 then (if iwV T s b e 4 = 0 then -1 else nI 4) else nI 3) else nI 2) else nI 1) else nI 0)
theorem c_officeLine {S : Nat × (Nat → Int32)} {d n : Nat} {I : mI} {J : mJ} {R : mR} (hn : 122 ≤ n) (hR : m_fin R) (hRt : R 40 5 = some 2) {F : Nat → Int32} {s b e : Nat} (h7 : F 7 = nI s) (h8 : F 8 = nI b) (h9 : F 9 = nI e) (hs : s ≤ 4) (hbe : b ≤ e) (he6 : e ≤ 600)  : RUN S (d + 5) YReader_officeLine [.ref 40] (m_row I 40 F) J R n (some (.int (olC (I 2) s b e))) (m_row I 40 F) J R n := by
  show AW S _ YReader_officeLine n n _ 0 [(0, .ref 40)] [] (m_row I 40 F) J R n
  refine a_aload_n 0 dReader_officeLine_0 rfl rfl ?_
  refine a_ldcS (i := 0) dReader_officeLine_1 rfl rfl ?_
  refine a_callV (Q' := m_res (some (.int (iwV (I 2) s b e 0))) (m_row I 40 F) J R) (as := [.ref (1000010 + 0)]) (st := []) dReader_officeLine_3 ml7_163 rfl (Nat.le_of_ble_eq_true rfl) ly_40 rfl rfl (by decide) (by omega) (Nat.le_of_ble_eq_true rfl) rfl (Nat.le_refl _) (Nat.le_refl _) (c_isWord hn hR hRt h7 h8 h9 hs hbe he6 (i := 0) (by decide)) (m_go ?_)
  show AW _ _ _ _ _ _ _ _ [.int (iwV (I 2) s b e 0)] _ _ _ _
  refine a_if_eq (tgt := 11) dReader_officeLine_6 (by decide) (fun c6 => ?_) (fun c6 => ?_)
  · refine a_aload_n 0 dReader_officeLine_11 rfl rfl ?_
    refine a_ldcS (i := 1) dReader_officeLine_12 rfl rfl ?_
    refine a_callV (Q' := m_res (some (.int (iwV (I 2) s b e 1))) (m_row I 40 F) J R) (as := [.ref (1000010 + 1)]) (st := []) dReader_officeLine_14 ml7_163 rfl (Nat.le_of_ble_eq_true rfl) ly_40 rfl rfl (by decide) (by omega) (Nat.le_of_ble_eq_true rfl) rfl (Nat.le_refl _) (Nat.le_refl _) (c_isWord hn hR hRt h7 h8 h9 hs hbe he6 (i := 1) (by decide)) (m_go ?_)
    show AW _ _ _ _ _ _ _ _ [.int (iwV (I 2) s b e 1)] _ _ _ _
    refine a_if_eq (tgt := 22) dReader_officeLine_17 (by decide) (fun c17 => ?_) (fun c17 => ?_)
    · refine a_aload_n 0 dReader_officeLine_22 rfl rfl ?_
      refine a_ldcS (i := 2) dReader_officeLine_23 rfl rfl ?_
      refine a_callV (Q' := m_res (some (.int (iwV (I 2) s b e 2))) (m_row I 40 F) J R) (as := [.ref (1000010 + 2)]) (st := []) dReader_officeLine_25 ml7_163 rfl (Nat.le_of_ble_eq_true rfl) ly_40 rfl rfl (by decide) (by omega) (Nat.le_of_ble_eq_true rfl) rfl (Nat.le_refl _) (Nat.le_refl _) (c_isWord hn hR hRt h7 h8 h9 hs hbe he6 (i := 2) (by decide)) (m_go ?_)
      show AW _ _ _ _ _ _ _ _ [.int (iwV (I 2) s b e 2)] _ _ _ _
      refine a_if_eq (tgt := 33) dReader_officeLine_28 (by decide) (fun c28 => ?_) (fun c28 => ?_)
      · refine a_aload_n 0 dReader_officeLine_33 rfl rfl ?_
        refine a_ldcS (i := 3) dReader_officeLine_34 rfl rfl ?_
        refine a_callV (Q' := m_res (some (.int (iwV (I 2) s b e 3))) (m_row I 40 F) J R) (as := [.ref (1000010 + 3)]) (st := []) dReader_officeLine_36 ml7_163 rfl (Nat.le_of_ble_eq_true rfl) ly_40 rfl rfl (by decide) (by omega) (Nat.le_of_ble_eq_true rfl) rfl (Nat.le_refl _) (Nat.le_refl _) (c_isWord hn hR hRt h7 h8 h9 hs hbe he6 (i := 3) (by decide)) (m_go ?_)
        show AW _ _ _ _ _ _ _ _ [.int (iwV (I 2) s b e 3)] _ _ _ _
        refine a_if_eq (tgt := 44) dReader_officeLine_39 (by decide) (fun c39 => ?_) (fun c39 => ?_)
        · refine a_aload_n 0 dReader_officeLine_44 rfl rfl ?_
          refine a_ldcS (i := 4) dReader_officeLine_45 rfl rfl ?_
          refine a_callV (Q' := m_res (some (.int (iwV (I 2) s b e 4))) (m_row I 40 F) J R) (as := [.ref (1000010 + 4)]) (st := []) dReader_officeLine_47 ml7_163 rfl (Nat.le_of_ble_eq_true rfl) ly_40 rfl rfl (by decide) (by omega) (Nat.le_of_ble_eq_true rfl) rfl (Nat.le_refl _) (Nat.le_refl _) (c_isWord hn hR hRt h7 h8 h9 hs hbe he6 (i := 4) (by decide)) (m_go ?_)
          show AW _ _ _ _ _ _ _ _ [.int (iwV (I 2) s b e 4)] _ _ _ _
          refine a_if_eq (tgt := 57) dReader_officeLine_50 (by decide) (fun c50 => ?_) (fun c50 => ?_)
          · refine a_iconst (v := -1) dReader_officeLine_57 (by decide) ?_
            exact a_iret dReader_officeLine_58 rfl ⟨by unfold olC; rw [if_pos c6, if_pos c17, if_pos c28, if_pos c39, if_pos c50], rfl, rfl, rfl⟩
          · refine a_iconstN (a := 4) dReader_officeLine_53 (by decide) ?_
            refine a_goto (tgt := 58) dReader_officeLine_54 (by decide) ?_
            exact a_iret dReader_officeLine_58 rfl ⟨by unfold olC; rw [if_pos c6, if_pos c17, if_pos c28, if_pos c39, if_neg c50], rfl, rfl, rfl⟩
        · refine a_iconstN (a := 3) dReader_officeLine_42 (by decide) ?_
          exact a_iret dReader_officeLine_43 rfl ⟨by unfold olC; rw [if_pos c6, if_pos c17, if_pos c28, if_neg c39], rfl, rfl, rfl⟩
      · refine a_iconstN (a := 2) dReader_officeLine_31 (by decide) ?_
        exact a_iret dReader_officeLine_32 rfl ⟨by unfold olC; rw [if_pos c6, if_pos c17, if_neg c28], rfl, rfl, rfl⟩
    · refine a_iconstN (a := 1) dReader_officeLine_20 (by decide) ?_
      exact a_iret dReader_officeLine_21 rfl ⟨by unfold olC; rw [if_pos c6, if_neg c17], rfl, rfl, rfl⟩
  · refine a_iconstN (a := 0) dReader_officeLine_9 (by decide) ?_
    exact a_iret dReader_officeLine_10 rfl ⟨by unfold olC; rw [if_neg c6], rfl, rfl, rfl⟩
def wlC (T : Nat → Int32) (s b e : Nat) : Int32 := (if iwV T s b e 5 = 0 then (if iwV T s b e 6 = 0 then (if iwV T s b e 7 = 0 then (if iwV T s b e 8 = 0 then -1 else nI 8) else nI 7) else nI 6) else nI 5)
theorem c_weekLine {S : Nat × (Nat → Int32)} {d n : Nat} {I : mI} {J : mJ} {R : mR} (hn : 122 ≤ n) (hR : m_fin R) (hRt : R 40 5 = some 2) {F : Nat → Int32} {s b e : Nat} (h7 : F 7 = nI s) (h8 : F 8 = nI b) (h9 : F 9 = nI e) (hs : s ≤ 4) (hbe : b ≤ e) (he6 : e ≤ 600)  : RUN S (d + 5) YReader_weekLine [.ref 40] (m_row I 40 F) J R n (some (.int (wlC (I 2) s b e))) (m_row I 40 F) J R n := by
  show AW S _ YReader_weekLine n n _ 0 [(0, .ref 40)] [] (m_row I 40 F) J R n
  refine a_aload_n 0 dReader_weekLine_0 rfl rfl ?_
  refine a_ldcS (i := 5) dReader_weekLine_1 rfl rfl ?_
  refine a_callV (Q' := m_res (some (.int (iwV (I 2) s b e 5))) (m_row I 40 F) J R) (as := [.ref (1000010 + 5)]) (st := []) dReader_weekLine_3 ml7_163 rfl (Nat.le_of_ble_eq_true rfl) ly_40 rfl rfl (by decide) (by omega) (Nat.le_of_ble_eq_true rfl) rfl (Nat.le_refl _) (Nat.le_refl _) (c_isWord hn hR hRt h7 h8 h9 hs hbe he6 (i := 5) (by decide)) (m_go ?_)
  show AW _ _ _ _ _ _ _ _ [.int (iwV (I 2) s b e 5)] _ _ _ _
  refine a_if_eq (tgt := 11) dReader_weekLine_6 (by decide) (fun c6 => ?_) (fun c6 => ?_)
  · refine a_aload_n 0 dReader_weekLine_11 rfl rfl ?_
    refine a_ldcS (i := 6) dReader_weekLine_12 rfl rfl ?_
    refine a_callV (Q' := m_res (some (.int (iwV (I 2) s b e 6))) (m_row I 40 F) J R) (as := [.ref (1000010 + 6)]) (st := []) dReader_weekLine_14 ml7_163 rfl (Nat.le_of_ble_eq_true rfl) ly_40 rfl rfl (by decide) (by omega) (Nat.le_of_ble_eq_true rfl) rfl (Nat.le_refl _) (Nat.le_refl _) (c_isWord hn hR hRt h7 h8 h9 hs hbe he6 (i := 6) (by decide)) (m_go ?_)
    show AW _ _ _ _ _ _ _ _ [.int (iwV (I 2) s b e 6)] _ _ _ _
    refine a_if_eq (tgt := 23) dReader_weekLine_17 (by decide) (fun c17 => ?_) (fun c17 => ?_)
    · refine a_aload_n 0 dReader_weekLine_23 rfl rfl ?_
      refine a_ldcS (i := 7) dReader_weekLine_24 rfl rfl ?_
      refine a_callV (Q' := m_res (some (.int (iwV (I 2) s b e 7))) (m_row I 40 F) J R) (as := [.ref (1000010 + 7)]) (st := []) dReader_weekLine_26 ml7_163 rfl (Nat.le_of_ble_eq_true rfl) ly_40 rfl rfl (by decide) (by omega) (Nat.le_of_ble_eq_true rfl) rfl (Nat.le_refl _) (Nat.le_refl _) (c_isWord hn hR hRt h7 h8 h9 hs hbe he6 (i := 7) (by decide)) (m_go ?_)
      show AW _ _ _ _ _ _ _ _ [.int (iwV (I 2) s b e 7)] _ _ _ _
      refine a_if_eq (tgt := 35) dReader_weekLine_29 (by decide) (fun c29 => ?_) (fun c29 => ?_)
      · refine a_aload_n 0 dReader_weekLine_35 rfl rfl ?_
        refine a_ldcS (i := 8) dReader_weekLine_36 rfl rfl ?_
        refine a_callV (Q' := m_res (some (.int (iwV (I 2) s b e 8))) (m_row I 40 F) J R) (as := [.ref (1000010 + 8)]) (st := []) dReader_weekLine_38 ml7_163 rfl (Nat.le_of_ble_eq_true rfl) ly_40 rfl rfl (by decide) (by omega) (Nat.le_of_ble_eq_true rfl) rfl (Nat.le_refl _) (Nat.le_refl _) (c_isWord hn hR hRt h7 h8 h9 hs hbe he6 (i := 8) (by decide)) (m_go ?_)
        show AW _ _ _ _ _ _ _ _ [.int (iwV (I 2) s b e 8)] _ _ _ _
        refine a_if_eq (tgt := 49) dReader_weekLine_41 (by decide) (fun c41 => ?_) (fun c41 => ?_)
        · refine a_iconst (v := -1) dReader_weekLine_49 (by decide) ?_
          exact a_iret dReader_weekLine_50 rfl ⟨by unfold wlC; rw [if_pos c6, if_pos c17, if_pos c29, if_pos c41], rfl, rfl, rfl⟩
        · refine a_bipushN (a := 8) dReader_weekLine_44 (by decide) ?_
          refine a_goto (tgt := 50) dReader_weekLine_46 (by decide) ?_
          exact a_iret dReader_weekLine_50 rfl ⟨by unfold wlC; rw [if_pos c6, if_pos c17, if_pos c29, if_neg c41], rfl, rfl, rfl⟩
      · refine a_bipushN (a := 7) dReader_weekLine_32 (by decide) ?_
        exact a_iret dReader_weekLine_34 rfl ⟨by unfold wlC; rw [if_pos c6, if_pos c17, if_neg c29], rfl, rfl, rfl⟩
    · refine a_bipushN (a := 6) dReader_weekLine_20 (by decide) ?_
      exact a_iret dReader_weekLine_22 rfl ⟨by unfold wlC; rw [if_pos c6, if_neg c17], rfl, rfl, rfl⟩
  · refine a_iconstN (a := 5) dReader_weekLine_9 (by decide) ?_
    exact a_iret dReader_weekLine_10 rfl ⟨by unfold wlC; rw [if_neg c6], rfl, rfl, rfl⟩
def glC (T : Nat → Int32) (s b e : Nat) : Int32 := (if iwV T s b e 1 = 0 then -1 else nI 9)
theorem c_logLine {S : Nat × (Nat → Int32)} {d n : Nat} {I : mI} {J : mJ} {R : mR} (hn : 122 ≤ n) (hR : m_fin R) (hRt : R 40 5 = some 2) {F : Nat → Int32} {s b e : Nat} (h7 : F 7 = nI s) (h8 : F 8 = nI b) (h9 : F 9 = nI e) (hs : s ≤ 4) (hbe : b ≤ e) (he6 : e ≤ 600)  : RUN S (d + 5) YReader_logLine [.ref 40] (m_row I 40 F) J R n (some (.int (glC (I 2) s b e))) (m_row I 40 F) J R n := by
  show AW S _ YReader_logLine n n _ 0 [(0, .ref 40)] [] (m_row I 40 F) J R n
  refine a_aload_n 0 dReader_logLine_0 rfl rfl ?_
  refine a_ldcS (i := 1) dReader_logLine_1 rfl rfl ?_
  refine a_callV (Q' := m_res (some (.int (iwV (I 2) s b e 1))) (m_row I 40 F) J R) (as := [.ref (1000010 + 1)]) (st := []) dReader_logLine_3 ml7_163 rfl (Nat.le_of_ble_eq_true rfl) ly_40 rfl rfl (by decide) (by omega) (Nat.le_of_ble_eq_true rfl) rfl (Nat.le_refl _) (Nat.le_refl _) (c_isWord hn hR hRt h7 h8 h9 hs hbe he6 (i := 1) (by decide)) (m_go ?_)
  show AW _ _ _ _ _ _ _ _ [.int (iwV (I 2) s b e 1)] _ _ _ _
  refine a_if_eq (tgt := 14) dReader_logLine_6 (by decide) (fun c6 => ?_) (fun c6 => ?_)
  · refine a_iconst (v := -1) dReader_logLine_14 (by decide) ?_
    exact a_iret dReader_logLine_15 rfl ⟨by unfold glC; rw [if_pos c6], rfl, rfl, rfl⟩
  · refine a_bipushN (a := 9) dReader_logLine_9 (by decide) ?_
    refine a_goto (tgt := 15) dReader_logLine_11 (by decide) ?_
    exact a_iret dReader_logLine_15 rfl ⟨by unfold glC; rw [if_neg c6], rfl, rfl, rfl⟩
def laC (T : Nat → Int32) (s b e : Nat) (of : Int32) : Int32 := if of = 0 then olC T s b e else if of = nI 1 then wlC T s b e else glC T s b e
theorem c_lineAtHand {S : Nat × (Nat → Int32)} {d n : Nat} {I : mI} {J : mJ} {R : mR} (hn : 122 ≤ n) (hR : m_fin R) (hRt : R 40 5 = some 2) {F : Nat → Int32} {s b e : Nat} (h7 : F 7 = nI s) (h8 : F 8 = nI b) (h9 : F 9 = nI e) (hs : s ≤ 4) (hbe : b ≤ e) (he6 : e ≤ 600) {x : Int32}  : RUN S (d + 6) YReader_lineAtHand [.ref 40, .int x] (m_row I 40 F) J R n (some (.int (laC (I 2) s b e x))) (m_row I 40 F) J R n := by
  show AW S _ YReader_lineAtHand n n _ 0 [(0, .ref 40), (1, .int x)] [] (m_row I 40 F) J R n
  refine a_iload_n 1 dReader_lineAtHand_0 rfl rfl ?_
  refine a_if_ne (tgt := 9) dReader_lineAtHand_1 (by decide) (fun c1 => ?_) (fun c1 => ?_)
  · refine a_iload_n 1 dReader_lineAtHand_9 rfl rfl ?_
    refine a_iconstN (a := 1) dReader_lineAtHand_10 (by decide) ?_
    refine a_icmp_ne (tgt := 21) dReader_lineAtHand_11 (by decide) (fun c11 => ?_) (fun c11 => ?_)
    · refine a_aload_n 0 dReader_lineAtHand_21 rfl rfl ?_
      refine a_callV (Q' := m_res (some (.int (glC (I 2) s b e))) (m_row I 40 F) J R) (as := []) (st := []) dReader_lineAtHand_22 ml7_159 rfl (Nat.le_of_ble_eq_true rfl) ly_40 rfl rfl (by decide) (by omega) (Nat.le_of_ble_eq_true rfl) rfl (Nat.le_refl _) (Nat.le_refl _) (c_logLine hn hR hRt h7 h8 h9 hs hbe he6) (m_go ?_)
      show AW _ _ _ _ _ _ _ _ [.int (glC (I 2) s b e)] _ _ _ _
      exact a_iret dReader_lineAtHand_25 rfl ⟨by unfold laC; rw [if_neg c1, if_neg c11], rfl, rfl, rfl⟩
    · refine a_aload_n 0 dReader_lineAtHand_14 rfl rfl ?_
      refine a_callV (Q' := m_res (some (.int (wlC (I 2) s b e))) (m_row I 40 F) J R) (as := []) (st := []) dReader_lineAtHand_15 ml7_156 rfl (Nat.le_of_ble_eq_true rfl) ly_40 rfl rfl (by decide) (by omega) (Nat.le_of_ble_eq_true rfl) rfl (Nat.le_refl _) (Nat.le_refl _) (c_weekLine hn hR hRt h7 h8 h9 hs hbe he6) (m_go ?_)
      show AW _ _ _ _ _ _ _ _ [.int (wlC (I 2) s b e)] _ _ _ _
      refine a_goto (tgt := 25) dReader_lineAtHand_18 (by decide) ?_
      exact a_iret dReader_lineAtHand_25 rfl ⟨by unfold laC; rw [if_neg c1, if_pos c11], rfl, rfl, rfl⟩
  · refine a_aload_n 0 dReader_lineAtHand_4 rfl rfl ?_
    refine a_callV (Q' := m_res (some (.int (olC (I 2) s b e))) (m_row I 40 F) J R) (as := []) (st := []) dReader_lineAtHand_5 ml7_153 rfl (Nat.le_of_ble_eq_true rfl) ly_40 rfl rfl (by decide) (by omega) (Nat.le_of_ble_eq_true rfl) rfl (Nat.le_refl _) (Nat.le_refl _) (c_officeLine hn hR hRt h7 h8 h9 hs hbe he6) (m_go ?_)
    show AW _ _ _ _ _ _ _ _ [.int (olC (I 2) s b e)] _ _ _ _
    exact a_iret dReader_lineAtHand_8 rfl ⟨by unfold laC; rw [if_pos c1], rfl, rfl, rfl⟩
def shN (l : Nat) : Nat := [9, 14, 10, 11, 12, 9, 14, 9, 13].getD l 14
theorem c_shape0 {S : Nat × (Nat → Int32)} {d n : Nat} {I : mI} {J : mJ} {R : mR}  : RUN S d YReader_shapeOf [.int (nI 0)] I J R n (some (.ref (1000010 + 9))) I J R n := by
  show AW S _ YReader_shapeOf n n _ 0 [(0, .int (nI 0))] [] I J R n
  refine a_iload_n 0 dReader_shapeOf_0 rfl rfl ?_
  refine a_tab (c := 0) (off := 51) (tgt := 52) dReader_shapeOf_1 rfl (by decide) (by decide) (by decide) (by decide) ?_
  refine a_ldcS (i := 9) dReader_shapeOf_52 rfl rfl ?_
  exact a_aret dReader_shapeOf_54 rfl ⟨_, rfl⟩ (Or.inr ⟨_, rfl⟩) ⟨rfl, rfl, rfl, rfl⟩
theorem c_shape1 {S : Nat × (Nat → Int32)} {d n : Nat} {I : mI} {J : mJ} {R : mR}  : RUN S d YReader_shapeOf [.int (nI 1)] I J R n (some (.ref (1000010 + 14))) I J R n := by
  show AW S _ YReader_shapeOf n n _ 0 [(0, .int (nI 1))] [] I J R n
  refine a_iload_n 0 dReader_shapeOf_0 rfl rfl ?_
  refine a_tab (c := 1) (off := 66) (tgt := 67) dReader_shapeOf_1 rfl (by decide) (by decide) (by decide) (by decide) ?_
  refine a_ldcS (i := 14) dReader_shapeOf_67 rfl rfl ?_
  exact a_aret dReader_shapeOf_69 rfl ⟨_, rfl⟩ (Or.inr ⟨_, rfl⟩) ⟨rfl, rfl, rfl, rfl⟩
theorem c_shape2 {S : Nat × (Nat → Int32)} {d n : Nat} {I : mI} {J : mJ} {R : mR}  : RUN S d YReader_shapeOf [.int (nI 2)] I J R n (some (.ref (1000010 + 10))) I J R n := by
  show AW S _ YReader_shapeOf n n _ 0 [(0, .int (nI 2))] [] I J R n
  refine a_iload_n 0 dReader_shapeOf_0 rfl rfl ?_
  refine a_tab (c := 2) (off := 54) (tgt := 55) dReader_shapeOf_1 rfl (by decide) (by decide) (by decide) (by decide) ?_
  refine a_ldcS (i := 10) dReader_shapeOf_55 rfl rfl ?_
  exact a_aret dReader_shapeOf_57 rfl ⟨_, rfl⟩ (Or.inr ⟨_, rfl⟩) ⟨rfl, rfl, rfl, rfl⟩
theorem c_shape3 {S : Nat × (Nat → Int32)} {d n : Nat} {I : mI} {J : mJ} {R : mR}  : RUN S d YReader_shapeOf [.int (nI 3)] I J R n (some (.ref (1000010 + 11))) I J R n := by
  show AW S _ YReader_shapeOf n n _ 0 [(0, .int (nI 3))] [] I J R n
  refine a_iload_n 0 dReader_shapeOf_0 rfl rfl ?_
  refine a_tab (c := 3) (off := 57) (tgt := 58) dReader_shapeOf_1 rfl (by decide) (by decide) (by decide) (by decide) ?_
  refine a_ldcS (i := 11) dReader_shapeOf_58 rfl rfl ?_
  exact a_aret dReader_shapeOf_60 rfl ⟨_, rfl⟩ (Or.inr ⟨_, rfl⟩) ⟨rfl, rfl, rfl, rfl⟩
theorem c_shape4 {S : Nat × (Nat → Int32)} {d n : Nat} {I : mI} {J : mJ} {R : mR}  : RUN S d YReader_shapeOf [.int (nI 4)] I J R n (some (.ref (1000010 + 12))) I J R n := by
  show AW S _ YReader_shapeOf n n _ 0 [(0, .int (nI 4))] [] I J R n
  refine a_iload_n 0 dReader_shapeOf_0 rfl rfl ?_
  refine a_tab (c := 4) (off := 60) (tgt := 61) dReader_shapeOf_1 rfl (by decide) (by decide) (by decide) (by decide) ?_
  refine a_ldcS (i := 12) dReader_shapeOf_61 rfl rfl ?_
  exact a_aret dReader_shapeOf_63 rfl ⟨_, rfl⟩ (Or.inr ⟨_, rfl⟩) ⟨rfl, rfl, rfl, rfl⟩
theorem c_shape5 {S : Nat × (Nat → Int32)} {d n : Nat} {I : mI} {J : mJ} {R : mR}  : RUN S d YReader_shapeOf [.int (nI 5)] I J R n (some (.ref (1000010 + 9))) I J R n := by
  show AW S _ YReader_shapeOf n n _ 0 [(0, .int (nI 5))] [] I J R n
  refine a_iload_n 0 dReader_shapeOf_0 rfl rfl ?_
  refine a_tab (c := 5) (off := 51) (tgt := 52) dReader_shapeOf_1 rfl (by decide) (by decide) (by decide) (by decide) ?_
  refine a_ldcS (i := 9) dReader_shapeOf_52 rfl rfl ?_
  exact a_aret dReader_shapeOf_54 rfl ⟨_, rfl⟩ (Or.inr ⟨_, rfl⟩) ⟨rfl, rfl, rfl, rfl⟩
theorem c_shape6 {S : Nat × (Nat → Int32)} {d n : Nat} {I : mI} {J : mJ} {R : mR}  : RUN S d YReader_shapeOf [.int (nI 6)] I J R n (some (.ref (1000010 + 14))) I J R n := by
  show AW S _ YReader_shapeOf n n _ 0 [(0, .int (nI 6))] [] I J R n
  refine a_iload_n 0 dReader_shapeOf_0 rfl rfl ?_
  refine a_tab (c := 6) (off := 66) (tgt := 67) dReader_shapeOf_1 rfl (by decide) (by decide) (by decide) (by decide) ?_
  refine a_ldcS (i := 14) dReader_shapeOf_67 rfl rfl ?_
  exact a_aret dReader_shapeOf_69 rfl ⟨_, rfl⟩ (Or.inr ⟨_, rfl⟩) ⟨rfl, rfl, rfl, rfl⟩
theorem c_shape7 {S : Nat × (Nat → Int32)} {d n : Nat} {I : mI} {J : mJ} {R : mR}  : RUN S d YReader_shapeOf [.int (nI 7)] I J R n (some (.ref (1000010 + 9))) I J R n := by
  show AW S _ YReader_shapeOf n n _ 0 [(0, .int (nI 7))] [] I J R n
  refine a_iload_n 0 dReader_shapeOf_0 rfl rfl ?_
  refine a_tab (c := 7) (off := 51) (tgt := 52) dReader_shapeOf_1 rfl (by decide) (by decide) (by decide) (by decide) ?_
  refine a_ldcS (i := 9) dReader_shapeOf_52 rfl rfl ?_
  exact a_aret dReader_shapeOf_54 rfl ⟨_, rfl⟩ (Or.inr ⟨_, rfl⟩) ⟨rfl, rfl, rfl, rfl⟩
theorem c_shape8 {S : Nat × (Nat → Int32)} {d n : Nat} {I : mI} {J : mJ} {R : mR}  : RUN S d YReader_shapeOf [.int (nI 8)] I J R n (some (.ref (1000010 + 13))) I J R n := by
  show AW S _ YReader_shapeOf n n _ 0 [(0, .int (nI 8))] [] I J R n
  refine a_iload_n 0 dReader_shapeOf_0 rfl rfl ?_
  refine a_tab (c := 8) (off := 63) (tgt := 64) dReader_shapeOf_1 rfl (by decide) (by decide) (by decide) (by decide) ?_
  refine a_ldcS (i := 13) dReader_shapeOf_64 rfl rfl ?_
  exact a_aret dReader_shapeOf_66 rfl ⟨_, rfl⟩ (Or.inr ⟨_, rfl⟩) ⟨rfl, rfl, rfl, rfl⟩
theorem c_shape9 {S : Nat × (Nat → Int32)} {d n : Nat} {I : mI} {J : mJ} {R : mR}  : RUN S d YReader_shapeOf [.int (nI 9)] I J R n (some (.ref (1000010 + 14))) I J R n := by
  show AW S _ YReader_shapeOf n n _ 0 [(0, .int (nI 9))] [] I J R n
  refine a_iload_n 0 dReader_shapeOf_0 rfl rfl ?_
  refine a_tableOut (tgt := 67) dReader_shapeOf_1 (Or.inr (by decide)) (by decide) ?_
  refine a_ldcS (i := 14) dReader_shapeOf_67 rfl rfl ?_
  exact a_aret dReader_shapeOf_69 rfl ⟨_, rfl⟩ (Or.inr ⟨_, rfl⟩) ⟨rfl, rfl, rfl, rfl⟩
