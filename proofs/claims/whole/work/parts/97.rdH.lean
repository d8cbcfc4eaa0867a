theorem fK_self {G : Nat → Int32} {s b e kt nt : Nat} (h7 : G 7 = nI s) (h8 : G 8 = nI b) (h9 : G 9 = nI e) : fK G s b e kt nt = va_up (va_up G 12 (nI kt)) 15 (nI nt) := by
  unfold fK
  rw [va_ui2 h7, va_ui2 h8, va_ui2 h9]
theorem shF_le {T : Nat → Int32} {len i : Nat} : ∀ r j p (y : rs5), p ≤ len → p ≤ (shF T len i r j p y).2.1 ∧ (shF T len i r j p y).2.1 ≤ len := by
  intro r
  induction r with
  | zero => intro j p y h; exact ⟨Nat.le_refl _, h⟩
  | succ r ih =>
    intro j p y h
    have h1 := tkE_le (T := T) h
    have h2 := tkB_le (T := T) h
    unfold shF
    split
    · split
      · exact ⟨Nat.le_refl _, h⟩
      · have := ih (j + 1) (tkE T len p) (y.1 + 1, y.2.1, va_up y.2.2.1 y.1 (khC T (tkS T len p) (tkB T len p) (tkE T len p)), y.2.2.2.1, y.2.2.2.2) h1.2
        exact ⟨by omega, this.2⟩
    · split
      · have := ih (j + 1) (tkE T len p) (y.1, y.2.1 + 1, y.2.2.1, va_up y.2.2.2.1 y.2.1 (nvC T (tkE T len p - tkB T len p) (tkB T len p) (nI 0)), va_up y.2.2.2.2 y.2.1 (nI (tkB T len p))) h1.2
        exact ⟨by omega, this.2⟩
      · exact ⟨Nat.le_refl _, h⟩
theorem shF_ct {T : Nat → Int32} {len i : Nat} : ∀ r j p (y : rs5), (shF T len i r j p y).2.2.1 ≤ y.1 + r ∧ (shF T len i r j p y).2.2.2.1 ≤ y.2.1 + r := by
  intro r
  induction r with
  | zero => intro j p y; exact ⟨Nat.le_refl _, Nat.le_refl _⟩
  | succ r ih =>
    intro j p y
    unfold shF
    split
    · split
      · exact ⟨by show y.1 ≤ _; omega, by show y.2.1 ≤ _; omega⟩
      · have := ih (j + 1) (tkE T len p) (y.1 + 1, y.2.1, va_up y.2.2.1 y.1 (khC T (tkS T len p) (tkB T len p) (tkE T len p)), y.2.2.2.1, y.2.2.2.2)
        have a : _ ≤ y.1 + 1 + r := this.1
        have b : _ ≤ y.2.1 + r := this.2
        exact ⟨by omega, by omega⟩
    · split
      · have := ih (j + 1) (tkE T len p) (y.1, y.2.1 + 1, y.2.2.1, va_up y.2.2.2.1 y.2.1 (nvC T (tkE T len p - tkB T len p) (tkB T len p) (nI 0)), va_up y.2.2.2.2 y.2.1 (nI (tkB T len p)))
        have a : _ ≤ y.1 + r := this.1
        have b : _ ≤ y.2.1 + 1 + r := this.2
        exact ⟨by omega, by omega⟩
      · exact ⟨by show y.1 ≤ _; omega, by show y.2.1 ≤ _; omega⟩
theorem c_allThere {S : Nat × (Nat → Int32)} {d n : Nat} {I : mI} {J : mJ} {R : mR} (hn : 122 ≤ n) (hR : m_fin R) {K N P F : Nat → Int32}  : RUN S d YReader_allThere [.ref 40] (m_row (m_row (m_row (m_row I 40 F) 57 K) 58 N) 59 P) J R n (some (.int (if F 16 < I 41 0 then (if F 17 < I 41 1 then nI 1 else nI 0) else nI 0))) (m_row (m_row (m_row (m_row I 40 F) 57 K) 58 N) 59 P) J R n := by
  show AW S _ YReader_allThere n n _ 0 [(0, .ref 40)] [] (m_row (m_row (m_row (m_row I 40 F) 57 K) 58 N) 59 P) J R n
  refine a_aload_n 0 dReader_allThere_0 rfl rfl ?_
  refine a_geti dReader_allThere_1 fl7_93 rfl ly_40 (by omega) ?_
  rw [show (m_row (m_row (m_row (m_row I 40 F) 57 K) 58 N) 59 P) 40 16 = F 16 from rfl]
  refine a_aload_n 0 dReader_allThere_4 rfl rfl ?_
  refine a_geta (r := 41) dReader_allThere_5 fl7_12 rfl ly_40 (by omega) (rf_40_0 hR) ?_
  refine a_geti dReader_allThere_8 fl7_108 rfl ly_41 (by omega) ?_
  rw [show (m_row (m_row (m_row (m_row I 40 F) 57 K) 58 N) 59 P) 41 0 = I 41 0 from rfl]
  refine a_icmp_ge (tgt := 32) dReader_allThere_11 (by decide) (fun c11 => ?_) (fun c11 => ?_)
  · refine a_iconstN (a := 0) dReader_allThere_32 (by decide) ?_
    exact a_zret dReader_allThere_33 rfl (by rfl) ⟨by rw [if_neg (Int32.not_lt.mpr c11)], rfl, rfl, rfl⟩
  · refine a_aload_n 0 dReader_allThere_14 rfl rfl ?_
    refine a_geti dReader_allThere_15 fl7_96 rfl ly_40 (by omega) ?_
    rw [show (m_row (m_row (m_row (m_row I 40 F) 57 K) 58 N) 59 P) 40 17 = F 17 from rfl]
    refine a_aload_n 0 dReader_allThere_18 rfl rfl ?_
    refine a_geta (r := 41) dReader_allThere_19 fl7_12 rfl ly_40 (by omega) (rf_40_0 hR) ?_
    refine a_geti dReader_allThere_22 fl7_111 rfl ly_41 (by omega) ?_
    rw [show (m_row (m_row (m_row (m_row I 40 F) 57 K) 58 N) 59 P) 41 1 = I 41 1 from rfl]
    refine a_icmp_ge (tgt := 32) dReader_allThere_25 (by decide) (fun c25 => ?_) (fun c25 => ?_)
    · refine a_iconstN (a := 0) dReader_allThere_32 (by decide) ?_
      exact a_zret dReader_allThere_33 rfl (by rfl) ⟨by rw [if_pos (Int32.not_le.mp c11), if_neg (Int32.not_lt.mpr c25)], rfl, rfl, rfl⟩
    · refine a_iconstN (a := 1) dReader_allThere_28 (by decide) ?_
      refine a_goto (tgt := 33) dReader_allThere_29 (by decide) ?_
      exact a_zret dReader_allThere_33 rfl (by rfl) ⟨by rw [if_pos (Int32.not_le.mp c11), if_pos (Int32.not_le.mp c25)], rfl, rfl, rfl⟩
/-- an office as it is before anything is told -/
abbrev clI (I : mI) : mI := m_row (m_row (m_row (m_row (m_up (m_up (m_up I 41 0 (nI 3)) 41 1 (nI 0)) 41 2 (nI 0)) 42 (m_fill (fun _ => nI 10) (I 42) 6)) 47 (m_fill (fun _ => -1) (I 47) 10)) 48 (m_fill (fun _ => -1) (I 48) 10)) 49 (m_fill (fun _ => -1) (I 49) 16)
theorem c_clear {S : Nat × (Nat → Int32)} {d n : Nat} {I : mI} {J : mJ} {R : mR} (hn : 122 ≤ n) (hR : m_fin R)  : RUN S (d + 1) YOffice_clear [.ref 41] I J R n none (clI I) J R n := by
  show AW S _ YOffice_clear n n _ 0 [(0, .ref 41)] [] I J R n
  refine a_aload_n 0 dOffice_clear_0 rfl rfl ?_
  refine a_iconstN (a := 3) dOffice_clear_1 (by decide) ?_
  refine a_puti dOffice_clear_2 fl4_36 rfl ly_41 (by omega) ?_
  refine a_aload_n 0 dOffice_clear_5 rfl rfl ?_
  refine a_iconstN (a := 0) dOffice_clear_6 (by decide) ?_
  refine a_puti dOffice_clear_7 fl4_40 rfl ly_41 (by omega) ?_
  refine a_aload_n 0 dOffice_clear_10 rfl rfl ?_
  refine a_iconstN (a := 0) dOffice_clear_11 (by decide) ?_
  refine a_puti dOffice_clear_12 fl4_43 rfl ly_41 (by omega) ?_
  refine a_aload_n 0 dOffice_clear_15 rfl rfl ?_
  refine a_geta (r := 42) dOffice_clear_16 fl4_9 rfl ly_41 (by omega) (rf_41_3 hR) ?_
  refine a_bipushN (a := 10) dOffice_clear_19 (by decide) ?_
  refine a_callS (Q' := m_res none (m_row (m_up (m_up (m_up I 41 0 (nI 3)) 41 1 (nI 0)) 41 2 (nI 0)) 42 (m_fill (fun _ => (nI 10)) (I 42) 6)) J R) (as := [.ref 42, .int (nI 10)]) (st := []) dOffice_clear_21 ml4_46 rfl (Nat.le_of_ble_eq_true rfl) (Nat.le_of_ble_eq_true rfl) rfl (Nat.le_refl _) (Nat.le_refl _) (by have h := c_Arrays_fill (S := S) (d := d) (n := n) (J := J) (R := R) (I := (m_up (m_up (m_up I 41 0 (nI 3)) 41 1 (nI 0)) 41 2 (nI 0))) (a := 42) (N := 6) (x := (nI 10)) ly_42 (by omega) (by decide); exact h) (m_go ?_)
  show AW _ _ _ _ _ _ _ _ [] _ _ _ _
  refine a_aload_n 0 dOffice_clear_24 rfl rfl ?_
  refine a_geta (r := 47) dOffice_clear_25 fl4_27 rfl ly_41 (by omega) (rf_41_8 hR) ?_
  refine a_iconst (v := -1) dOffice_clear_28 (by decide) ?_
  refine a_callS (Q' := m_res none (m_row (m_row (m_up (m_up (m_up I 41 0 (nI 3)) 41 1 (nI 0)) 41 2 (nI 0)) 42 (m_fill (fun _ => (nI 10)) (I 42) 6)) 47 (m_fill (fun _ => (-1)) (I 47) 10)) J R) (as := [.ref 47, .int (-1)]) (st := []) dOffice_clear_29 ml4_46 rfl (Nat.le_of_ble_eq_true rfl) (Nat.le_of_ble_eq_true rfl) rfl (Nat.le_refl _) (Nat.le_refl _) (by have h := c_Arrays_fill (S := S) (d := d) (n := n) (J := J) (R := R) (I := (m_row (m_up (m_up (m_up I 41 0 (nI 3)) 41 1 (nI 0)) 41 2 (nI 0)) 42 (m_fill (fun _ => (nI 10)) (I 42) 6))) (a := 47) (N := 10) (x := (-1)) ly_47 (by omega) (by decide); exact h) (m_go ?_)
  show AW _ _ _ _ _ _ _ _ [] _ _ _ _
  refine a_aload_n 0 dOffice_clear_32 rfl rfl ?_
  refine a_geta (r := 48) dOffice_clear_33 fl4_30 rfl ly_41 (by omega) (rf_41_9 hR) ?_
  refine a_iconst (v := -1) dOffice_clear_36 (by decide) ?_
  refine a_callS (Q' := m_res none (m_row (m_row (m_row (m_up (m_up (m_up I 41 0 (nI 3)) 41 1 (nI 0)) 41 2 (nI 0)) 42 (m_fill (fun _ => (nI 10)) (I 42) 6)) 47 (m_fill (fun _ => (-1)) (I 47) 10)) 48 (m_fill (fun _ => (-1)) (I 48) 10)) J R) (as := [.ref 48, .int (-1)]) (st := []) dOffice_clear_37 ml4_46 rfl (Nat.le_of_ble_eq_true rfl) (Nat.le_of_ble_eq_true rfl) rfl (Nat.le_refl _) (Nat.le_refl _) (by have h := c_Arrays_fill (S := S) (d := d) (n := n) (J := J) (R := R) (I := (m_row (m_row (m_up (m_up (m_up I 41 0 (nI 3)) 41 1 (nI 0)) 41 2 (nI 0)) 42 (m_fill (fun _ => (nI 10)) (I 42) 6)) 47 (m_fill (fun _ => (-1)) (I 47) 10))) (a := 48) (N := 10) (x := (-1)) ly_48 (by omega) (by decide); exact h) (m_go ?_)
  show AW _ _ _ _ _ _ _ _ [] _ _ _ _
  refine a_aload_n 0 dOffice_clear_40 rfl rfl ?_
  refine a_geta (r := 49) dOffice_clear_41 fl4_33 rfl ly_41 (by omega) (rf_41_10 hR) ?_
  refine a_iconst (v := -1) dOffice_clear_44 (by decide) ?_
  refine a_callS (Q' := m_res none (m_row (m_row (m_row (m_row (m_up (m_up (m_up I 41 0 (nI 3)) 41 1 (nI 0)) 41 2 (nI 0)) 42 (m_fill (fun _ => (nI 10)) (I 42) 6)) 47 (m_fill (fun _ => (-1)) (I 47) 10)) 48 (m_fill (fun _ => (-1)) (I 48) 10)) 49 (m_fill (fun _ => (-1)) (I 49) 16)) J R) (as := [.ref 49, .int (-1)]) (st := []) dOffice_clear_45 ml4_46 rfl (Nat.le_of_ble_eq_true rfl) (Nat.le_of_ble_eq_true rfl) rfl (Nat.le_refl _) (Nat.le_refl _) (by have h := c_Arrays_fill (S := S) (d := d) (n := n) (J := J) (R := R) (I := (m_row (m_row (m_row (m_up (m_up (m_up I 41 0 (nI 3)) 41 1 (nI 0)) 41 2 (nI 0)) 42 (m_fill (fun _ => (nI 10)) (I 42) 6)) 47 (m_fill (fun _ => (-1)) (I 47) 10)) 48 (m_fill (fun _ => (-1)) (I 48) 10))) (a := 49) (N := 16) (x := (-1)) ly_49 (by omega) (by decide); exact h) (m_go ?_)
  show AW _ _ _ _ _ _ _ _ [] _ _ _ _
  exact a_vret dOffice_clear_48 rfl ⟨rfl, rfl, rfl, rfl⟩
abbrev fB (F : Nat → Int32) (len : Nat) : Nat → Int32 := (va_up (va_up (va_up (va_up (va_up (va_up F 3 (nI 0)) 4 (-1)) 6 (nI len)) 9 (nI 0)) 16 (-1)) 17 (-1))
abbrev rbM (I : mI) (F : Nat → Int32) (len : Nat) : mI := m_up (m_up (clI (m_row I 40 (fB F len))) 50 0 (nI 0)) 54 0 (nI 0)
theorem min_nI {a b : Nat} (ha : a < 2 ^ 31) (hb : b < 2 ^ 31) : (if nI b < nI a then nI b else nI a) = nI (min a b) := by
  by_cases h : b < a
  · rw [if_pos ((nI_ltI hb ha).mpr h)]; congr 1; omega
  · rw [if_neg (fun q => h ((nI_ltI hb ha).mp q))]; congr 1; omega
theorem c_rdBegin {S : Nat × (Nat → Int32)} {d n : Nat} {I : mI} {J : mJ} {R : mR} (hn : 122 ≤ n) (hR : m_fin R) {F : Nat → Int32} {len : Nat} (hl6 : len ≤ 600) : RUN S (d + 2) YReader_begin [.ref 40, .ref 2, .int (nI len)] (m_row I 40 F) J R n none (rbM I F len) J (m_up R 40 5 (some 2)) n := by
  show AW S _ YReader_begin n n _ 0 [(0, .ref 40), (1, .ref 2), (2, .int (nI len))] [] (m_row I 40 F) J R n
  have hR' : m_fin (m_up R 40 5 (some 2)) := m_fin_up hR (by decide +kernel)
  refine a_aload_n 0 dReader_begin_0 rfl rfl ?_
  refine a_aload_n 1 dReader_begin_1 rfl rfl ?_
  refine a_puta dReader_begin_2 fl7_77 rfl rfl (fun h => by cases h) ly_40 (by omega) ?_
  refine a_aload_n 0 dReader_begin_5 rfl rfl ?_
  refine a_iconstN (a := 0) dReader_begin_6 (by decide) ?_
  refine a_iload_n 2 dReader_begin_7 rfl rfl ?_
  refine a_aload_n 1 dReader_begin_8 rfl rfl ?_
  refine a_alen (v := nI 600) dReader_begin_9 ly_2 (by omega) rfl ?_
  refine a_min dReader_begin_10 mm7_81 (Nat.le_of_ble_eq_true rfl) (Nat.le_refl _) ?_
  rw [show (if (nI 600) < (nI len) then (nI 600) else (nI len)) = (nI len) from (by rw [min_nI (by omega) (by decide), Nat.min_eq_left hl6])]
  refine a_max dReader_begin_13 mm7_87 (Nat.le_of_ble_eq_true rfl) (Nat.le_refl _) ?_
  rw [show (if (nI 0) < (nI len) then (nI len) else (nI 0)) = (nI len) from (by rw [max_nI (by decide) (by omega), Nat.max_eq_right (Nat.zero_le _)])]
  refine a_puti dReader_begin_16 fl7_46 rfl ly_40 (by omega) ?_
  rw [show m_up (m_row I 40 F) 40 6 (nI len) = (m_row I 40 (va_up F 6 (nI len))) from (by rw [m_up_r])]
  refine a_aload_n 0 dReader_begin_19 rfl rfl ?_
  refine a_iconstN (a := 0) dReader_begin_20 (by decide) ?_
  refine a_puti dReader_begin_21 fl7_90 rfl ly_40 (by omega) ?_
  rw [show m_up (m_row I 40 (va_up F 6 (nI len))) 40 9 (nI 0) = (m_row I 40 (va_up (va_up F 6 (nI len)) 9 (nI 0))) from (by rw [m_up_r])]
  refine a_aload_n 0 dReader_begin_24 rfl rfl ?_
  refine a_iconstN (a := 0) dReader_begin_25 (by decide) ?_
  refine a_puti dReader_begin_26 fl7_60 rfl ly_40 (by omega) ?_
  rw [show m_up (m_row I 40 (va_up (va_up F 6 (nI len)) 9 (nI 0))) 40 3 (nI 0) = (m_row I 40 (va_up (va_up (va_up F 3 (nI 0)) 6 (nI len)) 9 (nI 0))) from (by rw [m_up_r, show va_up (va_up (va_up F 6 (nI len)) 9 (nI 0)) 3 (nI 0) = (va_up (va_up (va_up F 3 (nI 0)) 6 (nI len)) 9 (nI 0)) from ((va_uc (by decide)).trans (congrArg (fun g => va_up g 9 (nI 0)) ((va_uc (by decide)).trans (congrArg (fun g => va_up g 6 (nI len)) rfl))))])]
  refine a_aload_n 0 dReader_begin_29 rfl rfl ?_
  refine a_iconst (v := -1) dReader_begin_30 (by decide) ?_
  refine a_puti dReader_begin_31 fl7_66 rfl ly_40 (by omega) ?_
  rw [show m_up (m_row I 40 (va_up (va_up (va_up F 3 (nI 0)) 6 (nI len)) 9 (nI 0))) 40 4 (-1) = (m_row I 40 (va_up (va_up (va_up (va_up F 3 (nI 0)) 4 (-1)) 6 (nI len)) 9 (nI 0))) from (by rw [m_up_r, show va_up (va_up (va_up (va_up F 3 (nI 0)) 6 (nI len)) 9 (nI 0)) 4 (-1) = (va_up (va_up (va_up (va_up F 3 (nI 0)) 4 (-1)) 6 (nI len)) 9 (nI 0)) from ((va_uc (by decide)).trans (congrArg (fun g => va_up g 9 (nI 0)) ((va_uc (by decide)).trans (congrArg (fun g => va_up g 6 (nI len)) rfl))))])]
  refine a_aload_n 0 dReader_begin_34 rfl rfl ?_
  refine a_iconst (v := -1) dReader_begin_35 (by decide) ?_
  refine a_puti dReader_begin_36 fl7_93 rfl ly_40 (by omega) ?_
  rw [show m_up (m_row I 40 (va_up (va_up (va_up (va_up F 3 (nI 0)) 4 (-1)) 6 (nI len)) 9 (nI 0))) 40 16 (-1) = (m_row I 40 (va_up (va_up (va_up (va_up (va_up F 3 (nI 0)) 4 (-1)) 6 (nI len)) 9 (nI 0)) 16 (-1))) from (by rw [m_up_r])]
  refine a_aload_n 0 dReader_begin_39 rfl rfl ?_
  refine a_iconst (v := -1) dReader_begin_40 (by decide) ?_
  refine a_puti dReader_begin_41 fl7_96 rfl ly_40 (by omega) ?_
  rw [show m_up (m_row I 40 (va_up (va_up (va_up (va_up (va_up F 3 (nI 0)) 4 (-1)) 6 (nI len)) 9 (nI 0)) 16 (-1))) 40 17 (-1) = (m_row I 40 (va_up (va_up (va_up (va_up (va_up (va_up F 3 (nI 0)) 4 (-1)) 6 (nI len)) 9 (nI 0)) 16 (-1)) 17 (-1))) from (by rw [m_up_r])]
  refine a_aload_n 0 dReader_begin_44 rfl rfl ?_
  refine a_geta (r := 41) dReader_begin_45 fl7_12 rfl ly_40 (by omega) (rf_40_0 hR') ?_
  refine a_callV (Q' := m_res none (clI (m_row I 40 (va_up (va_up (va_up (va_up (va_up (va_up F 3 (nI 0)) 4 (-1)) 6 (nI len)) 9 (nI 0)) 16 (-1)) 17 (-1)))) J (m_up R 40 5 (some 2))) (as := []) (st := []) dReader_begin_48 ml7_99 rfl (Nat.le_of_ble_eq_true rfl) ly_41 rfl rfl (by decide) (by omega) (Nat.le_of_ble_eq_true rfl) rfl (Nat.le_refl _) (Nat.le_refl _) (c_clear hn (m_fin_up hR (by decide +kernel))) (m_go ?_)
  show AW _ _ _ _ _ _ _ _ [] _ _ _ _
  refine a_aload_n 0 dReader_begin_51 rfl rfl ?_
  refine a_geta (r := 50) dReader_begin_52 fl7_21 rfl ly_40 (by omega) (rf_40_1 hR') ?_
  refine a_iconstN (a := 0) dReader_begin_55 (by decide) ?_
  refine a_puti dReader_begin_56 fl7_102 rfl ly_50 (by omega) ?_
  refine a_aload_n 0 dReader_begin_59 rfl rfl ?_
  refine a_geta (r := 54) dReader_begin_60 fl7_28 rfl ly_40 (by omega) (rf_40_2 hR') ?_
  refine a_iconstN (a := 0) dReader_begin_63 (by decide) ?_
  refine a_puti dReader_begin_64 fl7_105 rfl ly_54 (by omega) ?_
  exact a_vret dReader_begin_67 rfl ⟨rfl, rfl, rfl, rfl⟩
