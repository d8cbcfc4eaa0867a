theorem cr60_self {I : mI} : cr60 I (I 61) (I 62) (I 63) (I 60 3) (I 60 2) (I 60 4) (I 60 5) (I 60 11) (I 60 12) (I 60 9) (I 60 10) = I := by
  have e : cf60 (I 60) (I 60 3) (I 60 2) (I 60 4) (I 60 5) (I 60 11) (I 60 12) (I 60 9) (I 60 10) = I 60 := by
    funext k
    unfold cf60
    repeat' split
    all_goals (first | rfl | (subst_vars; rfl))
  unfold cr60
  rw [e, m_row_self, m_row_self, m_row_self, m_row_self]
theorem cr88_self {I : mI} : cr88 I (I 89) (I 90) (I 91) (I 88 3) (I 88 2) (I 88 4) (I 88 5) (I 88 11) (I 88 12) (I 88 9) (I 88 10) = I := by
  have e : cf88 (I 88) (I 88 3) (I 88 2) (I 88 4) (I 88 5) (I 88 11) (I 88 12) (I 88 9) (I 88 10) = I 88 := by
    funext k
    unfold cf88
    repeat' split
    all_goals (first | rfl | (subst_vars; rfl))
  unfold cr88
  rw [e, m_row_self, m_row_self, m_row_self, m_row_self]
/-- the class's course as it begins -/
def opC (I : mI) (md ls cm : Nat → Int32) (o nl : Nat) : cS := (va_cpy (I (o + 1)) md 0 0 6, m_fill (fun _ => -1) ls 6, m_fill (fun _ => 0) cm 6, 0, (1 <<< (nI nl &&& 31)) - 1, 0, 0, 0, 0)
theorem opC_WFl {I : mI} {md ls cm : Nat → Int32} {o nl : Nat} : WFl (opC I md ls cm o nl).2.1 := fun h hh => by
  show kOK (m_fill (fun _ => (-1 : Int32)) ls 6 h)
  unfold m_fill
  rw [if_pos hh]
  exact Or.inl rfl
def opP (I : mI) (md : Nat → Int32) (o nh : Nat) : Int32 × Int32 := lwN (va_cpy (I (o + 1)) md 0 0 6) (I (o + 1) 0, 0) nh
theorem fin_60 {R : mR} {o : Nat} (h : m_fin R) : m_fin (m_up R 60 0 (some o)) := m_fin_up h (by decide +kernel)
theorem offR_60 {R : mR} {o v : Nat} (ho : o ∈ m_offs) (h : offR R o) : offR (m_up R 60 0 (some v)) o := fun k hk => by
  rw [m_up_ne (by have := (off_60 ho 0 (by decide)).1; omega)]
  exact h k hk
theorem c_begin {S : Nat × (Nat → Int32)} {d n : Nat} {I : mI} {J : mJ} {R : mR} {md ls cm : Nat → Int32} {ni le sl dn fa id0 gr lo : Int32}  (hn : 122 ≤ n) (hR : m_fin R) {o nh nl : Nat} (ho : o ∈ m_offs) (hr : offR R o) (hon : o + 8 < n) (hh : I o 0 = nI nh) (hnh : nh ≤ 6) (hl : I o 1 = nI nl) (hnl : nl ≤ 10)  : RUN S (d + 1) YCourse_begin [.ref 60, .ref o] (cr60 I md ls cm ni le sl dn fa id0 gr lo) J R n none (cr60 I (opC I md ls cm o nl).1 (opC I md ls cm o nl).2.1 (opC I md ls cm o nl).2.2.1 0 (opC I md ls cm o nl).2.2.2.2.1 0 0 0 0 (opP I md o nh).2 (opP I md o nh).1) J (m_up R 60 0 (some o)) n := by
  have hR' := fin_60 (o := o) hR
  have hr' := offR_60 (v := o) ho hr
  have hRo' : m_up R 60 0 (some o) 60 0 = some o := m_up_at
  show AW S _ YCourse_begin n n _ 0 [(0, .ref 60), (1, .ref o)] [] (cr60 I md ls cm ni le sl dn fa id0 gr lo) J R n
  refine a_aload_n 0 dCourse_begin_0 rfl rfl ?_
  refine a_aload_n 1 dCourse_begin_1 rfl rfl ?_
  refine a_puta dCourse_begin_2 fl2_21 rfl rfl (fun h => by cases h) ly_60 (by omega) ?_
  refine a_aload_n 0 dCourse_begin_5 rfl rfl ?_
  refine a_iconstN (a := 1) dCourse_begin_6 (by decide) ?_
  refine a_aload_n 1 dCourse_begin_7 rfl rfl ?_
  refine a_geti dCourse_begin_8 fl2_25 rfl (of_l0 ho) (by omega) ?_
  rw [show (cr60 I md ls cm ni le sl dn fa id0 gr lo) o 1 = (nI nl) from (by rw [cr60_off0 ho]; exact hl)]
  refine a_ishl dCourse_begin_11 ?_
  refine a_iconstN (a := 1) dCourse_begin_12 (by decide) ?_
  refine a_isub dCourse_begin_13 ?_
  refine a_puti dCourse_begin_14 fl2_31 rfl ly_60 (by omega) ?_
  rw [cr60_f2]
  refine a_aload_n 0 dCourse_begin_17 rfl rfl ?_
  refine a_iconstN (a := 0) dCourse_begin_18 (by decide) ?_
  refine a_puti dCourse_begin_19 fl2_34 rfl ly_60 (by omega) ?_
  rw [cr60_f3]
  refine a_aload_n 0 dCourse_begin_22 rfl rfl ?_
  refine a_iconstN (a := 0) dCourse_begin_23 (by decide) ?_
  refine a_puti dCourse_begin_24 fl2_37 rfl ly_60 (by omega) ?_
  rw [cr60_f4]
  refine a_aload_n 0 dCourse_begin_27 rfl rfl ?_
  refine a_iconstN (a := 0) dCourse_begin_28 (by decide) ?_
  refine a_puti dCourse_begin_29 fl2_40 rfl ly_60 (by omega) ?_
  rw [cr60_f5]
  refine a_aload_n 1 dCourse_begin_32 rfl rfl ?_
  refine a_geta (r := (o + 1)) dCourse_begin_33 fl2_43 rfl (of_l0 ho) (by omega) (hr' 0 (by decide)) ?_
  refine a_iconstN (a := 0) dCourse_begin_36 (by decide) ?_
  refine a_aload_n 0 dCourse_begin_37 rfl rfl ?_
  refine a_geta (r := 61) dCourse_begin_38 fl2_9 rfl ly_60 (by omega) (rf_60_6 hR') ?_
  refine a_iconstN (a := 0) dCourse_begin_41 (by decide) ?_
  refine a_bipushN (a := 6) dCourse_begin_42 (by decide) ?_
  refine a_copy dCourse_begin_44 (m_in (i := 781) (by decide +kernel) rfl) (of_l1 ho) ly_61 (by decide) (by omega) (by omega) (by decide) (by decide) (by decide) (by decide) (by decide) (Nat.le_of_ble_eq_true rfl) ?_
  rw [cr60_off ho 1 (by decide), cr60_1, cr60_rmd, show (nI 0).toNatClampNeg = 0 from rfl, show (nI 6).toNatClampNeg = 6 from rfl]
  refine a_aload_n 0 dCourse_begin_47 rfl rfl ?_
  refine a_geta (r := 62) dCourse_begin_48 fl2_15 rfl ly_60 (by omega) (rf_60_7 hR') ?_
  refine a_iconst (v := -1) dCourse_begin_51 (by decide) ?_
  refine a_callS (Q' := m_res none (cr60 I (va_cpy (I (o + 1)) md 0 0 6) (m_fill (fun _ => (-1)) ls 6) cm (nI 0) (((nI 1) <<< ((nI nl) &&& 31)) - (nI 1)) (nI 0) (nI 0) fa id0 gr lo) J (m_up R 60 0 (some o))) (as := [.ref 62, .int (-1)]) (st := []) dCourse_begin_52 ml2_50 rfl (Nat.le_of_ble_eq_true rfl) (Nat.le_of_ble_eq_true rfl) rfl (Nat.le_refl _) (Nat.le_refl _) (by have h := c_Arrays_fill (S := S) (d := d) (n := n) (J := J) (R := (m_up R 60 0 (some o))) (I := (cr60 I (va_cpy (I (o + 1)) md 0 0 6) ls cm (nI 0) (((nI 1) <<< ((nI nl) &&& 31)) - (nI 1)) (nI 0) (nI 0) fa id0 gr lo)) (a := 62) (N := 6) (x := (-1)) ly_62 (by omega) (by decide); rw [cr60_2, cr60_rls] at h; exact h) (m_go ?_)
  show AW _ _ _ _ _ _ _ _ [] _ _ _ _
  refine a_aload_n 0 dCourse_begin_55 rfl rfl ?_
  refine a_geta (r := 63) dCourse_begin_56 fl2_18 rfl ly_60 (by omega) (rf_60_8 hR') ?_
  refine a_iconstN (a := 0) dCourse_begin_59 (by decide) ?_
  refine a_callS (Q' := m_res none (cr60 I (va_cpy (I (o + 1)) md 0 0 6) (m_fill (fun _ => (-1)) ls 6) (m_fill (fun _ => (nI 0)) cm 6) (nI 0) (((nI 1) <<< ((nI nl) &&& 31)) - (nI 1)) (nI 0) (nI 0) fa id0 gr lo) J (m_up R 60 0 (some o))) (as := [.ref 63, .int (nI 0)]) (st := []) dCourse_begin_60 ml2_50 rfl (Nat.le_of_ble_eq_true rfl) (Nat.le_of_ble_eq_true rfl) rfl (Nat.le_refl _) (Nat.le_refl _) (by have h := c_Arrays_fill (S := S) (d := d) (n := n) (J := J) (R := (m_up R 60 0 (some o))) (I := (cr60 I (va_cpy (I (o + 1)) md 0 0 6) (m_fill (fun _ => (-1)) ls 6) cm (nI 0) (((nI 1) <<< ((nI nl) &&& 31)) - (nI 1)) (nI 0) (nI 0) fa id0 gr lo)) (a := 63) (N := 6) (x := (nI 0)) ly_63 (by omega) (by decide); rw [cr60_3, cr60_rcm] at h; exact h) (m_go ?_)
  show AW _ _ _ _ _ _ _ _ [] _ _ _ _
  refine a_aload_n 0 dCourse_begin_63 rfl rfl ?_
  refine a_iconstN (a := 0) dCourse_begin_64 (by decide) ?_
  refine a_puti dCourse_begin_65 fl2_56 rfl ly_60 (by omega) ?_
  rw [cr60_f9]
  refine a_aload_n 0 dCourse_begin_68 rfl rfl ?_
  refine a_aload_n 0 dCourse_begin_69 rfl rfl ?_
  refine a_geta (r := 61) dCourse_begin_70 fl2_9 rfl ly_60 (by omega) (rf_60_6 hR') ?_
  refine a_iconstN (a := 0) dCourse_begin_73 (by decide) ?_
  refine a_ialdN (a := 0) dCourse_begin_74 ly_61 (by omega) (by omega) (by decide) ?_
  rw [show (cr60 I (va_cpy (I (o + 1)) md 0 0 6) (m_fill (fun _ => (-1)) ls 6) (m_fill (fun _ => (nI 0)) cm 6) (nI 0) (((nI 1) <<< ((nI nl) &&& 31)) - (nI 1)) (nI 0) (nI 0) fa id0 (nI 0) lo) 61 0 = I (o + 1) 0 from (by rw [cr60_1]; rfl)]
  refine a_puti dCourse_begin_75 fl2_59 rfl ly_60 (by omega) ?_
  rw [cr60_f10]
  refine a_aload_n 0 dCourse_begin_78 rfl rfl ?_
  refine a_iconstN (a := 0) dCourse_begin_79 (by decide) ?_
  refine a_puti dCourse_begin_80 fl2_62 rfl ly_60 (by omega) ?_
  rw [cr60_f11]
  refine a_aload_n 0 dCourse_begin_83 rfl rfl ?_
  refine a_iconstN (a := 0) dCourse_begin_84 (by decide) ?_
  refine a_puti dCourse_begin_85 fl2_65 rfl ly_60 (by omega) ?_
  rw [cr60_f12]
  refine a_aload_n 0 dCourse_begin_88 rfl rfl ?_
  refine a_callV (Q' := m_res none (cr60 I (va_cpy (I (o + 1)) md 0 0 6) (m_fill (fun _ => (-1)) ls 6) (m_fill (fun _ => (nI 0)) cm 6) (nI 0) (((nI 1) <<< ((nI nl) &&& 31)) - (nI 1)) (nI 0) (nI 0) (nI 0) (nI 0) ((lwN (va_cpy (I (o + 1)) md 0 0 6) ((I (o + 1) 0), (nI 0)) nh).2) ((lwN (va_cpy (I (o + 1)) md 0 0 6) ((I (o + 1) 0), (nI 0)) nh).1)) J (m_up R 60 0 (some o))) (as := []) (st := []) dCourse_begin_89 ml2_68 rfl (Nat.le_of_ble_eq_true rfl) ly_60 rfl rfl (by decide) (by omega) (Nat.le_of_ble_eq_true rfl) rfl (Nat.le_refl _) (Nat.le_refl _) (c_noteLow hn hR' ho hr' hon hRo' hh hnh hl hnl) (m_go ?_)
  show AW _ _ _ _ _ _ _ _ [] _ _ _ _
  exact a_vret dCourse_begin_92 rfl ⟨rfl, rfl, rfl, rfl⟩
theorem fin_88 {R : mR} {o : Nat} (h : m_fin R) : m_fin (m_up R 88 0 (some o)) := m_fin_up h (by decide +kernel)
theorem offR_88 {R : mR} {o v : Nat} (ho : o ∈ m_offs) (h : offR R o) : offR (m_up R 88 0 (some v)) o := fun k hk => by
  rw [m_up_ne (by have := (off_88 ho 0 (by decide)).1; omega)]
  exact h k hk
theorem c_begin88 {S : Nat × (Nat → Int32)} {d n : Nat} {I : mI} {J : mJ} {R : mR} {md ls cm : Nat → Int32} {ni le sl dn fa id0 gr lo : Int32}  (hn : 122 ≤ n) (hR : m_fin R) {o nh nl : Nat} (ho : o ∈ m_offs) (hr : offR R o) (hon : o + 8 < n) (hh : I o 0 = nI nh) (hnh : nh ≤ 6) (hl : I o 1 = nI nl) (hnl : nl ≤ 10)  : RUN S (d + 1) YCourse_begin [.ref 88, .ref o] (cr88 I md ls cm ni le sl dn fa id0 gr lo) J R n none (cr88 I (opC I md ls cm o nl).1 (opC I md ls cm o nl).2.1 (opC I md ls cm o nl).2.2.1 0 (opC I md ls cm o nl).2.2.2.2.1 0 0 0 0 (opP I md o nh).2 (opP I md o nh).1) J (m_up R 88 0 (some o)) n := by
  have hR' := fin_88 (o := o) hR
  have hr' := offR_88 (v := o) ho hr
  have hRo' : m_up R 88 0 (some o) 88 0 = some o := m_up_at
  show AW S _ YCourse_begin n n _ 0 [(0, .ref 88), (1, .ref o)] [] (cr88 I md ls cm ni le sl dn fa id0 gr lo) J R n
  refine a_aload_n 0 dCourse_begin_0 rfl rfl ?_
  refine a_aload_n 1 dCourse_begin_1 rfl rfl ?_
  refine a_puta dCourse_begin_2 fl2_21 rfl rfl (fun h => by cases h) ly_88 (by omega) ?_
  refine a_aload_n 0 dCourse_begin_5 rfl rfl ?_
  refine a_iconstN (a := 1) dCourse_begin_6 (by decide) ?_
  refine a_aload_n 1 dCourse_begin_7 rfl rfl ?_
  refine a_geti dCourse_begin_8 fl2_25 rfl (of_l0 ho) (by omega) ?_
  rw [show (cr88 I md ls cm ni le sl dn fa id0 gr lo) o 1 = (nI nl) from (by rw [cr88_off0 ho]; exact hl)]
  refine a_ishl dCourse_begin_11 ?_
  refine a_iconstN (a := 1) dCourse_begin_12 (by decide) ?_
  refine a_isub dCourse_begin_13 ?_
  refine a_puti dCourse_begin_14 fl2_31 rfl ly_88 (by omega) ?_
  rw [cr88_f2]
  refine a_aload_n 0 dCourse_begin_17 rfl rfl ?_
  refine a_iconstN (a := 0) dCourse_begin_18 (by decide) ?_
  refine a_puti dCourse_begin_19 fl2_34 rfl ly_88 (by omega) ?_
  rw [cr88_f3]
  refine a_aload_n 0 dCourse_begin_22 rfl rfl ?_
  refine a_iconstN (a := 0) dCourse_begin_23 (by decide) ?_
  refine a_puti dCourse_begin_24 fl2_37 rfl ly_88 (by omega) ?_
  rw [cr88_f4]
  refine a_aload_n 0 dCourse_begin_27 rfl rfl ?_
  refine a_iconstN (a := 0) dCourse_begin_28 (by decide) ?_
  refine a_puti dCourse_begin_29 fl2_40 rfl ly_88 (by omega) ?_
  rw [cr88_f5]
  refine a_aload_n 1 dCourse_begin_32 rfl rfl ?_
  refine a_geta (r := (o + 1)) dCourse_begin_33 fl2_43 rfl (of_l0 ho) (by omega) (hr' 0 (by decide)) ?_
  refine a_iconstN (a := 0) dCourse_begin_36 (by decide) ?_
  refine a_aload_n 0 dCourse_begin_37 rfl rfl ?_
  refine a_geta (r := 89) dCourse_begin_38 fl2_9 rfl ly_88 (by omega) (rf_88_6 hR') ?_
  refine a_iconstN (a := 0) dCourse_begin_41 (by decide) ?_
  refine a_bipushN (a := 6) dCourse_begin_42 (by decide) ?_
  refine a_copy dCourse_begin_44 (m_in (i := 781) (by decide +kernel) rfl) (of_l1 ho) ly_89 (by decide) (by omega) (by omega) (by decide) (by decide) (by decide) (by decide) (by decide) (Nat.le_of_ble_eq_true rfl) ?_
  rw [cr88_off ho 1 (by decide), cr88_1, cr88_rmd, show (nI 0).toNatClampNeg = 0 from rfl, show (nI 6).toNatClampNeg = 6 from rfl]
  refine a_aload_n 0 dCourse_begin_47 rfl rfl ?_
  refine a_geta (r := 90) dCourse_begin_48 fl2_15 rfl ly_88 (by omega) (rf_88_7 hR') ?_
  refine a_iconst (v := -1) dCourse_begin_51 (by decide) ?_
  refine a_callS (Q' := m_res none (cr88 I (va_cpy (I (o + 1)) md 0 0 6) (m_fill (fun _ => (-1)) ls 6) cm (nI 0) (((nI 1) <<< ((nI nl) &&& 31)) - (nI 1)) (nI 0) (nI 0) fa id0 gr lo) J (m_up R 88 0 (some o))) (as := [.ref 90, .int (-1)]) (st := []) dCourse_begin_52 ml2_50 rfl (Nat.le_of_ble_eq_true rfl) (Nat.le_of_ble_eq_true rfl) rfl (Nat.le_refl _) (Nat.le_refl _) (by have h := c_Arrays_fill (S := S) (d := d) (n := n) (J := J) (R := (m_up R 88 0 (some o))) (I := (cr88 I (va_cpy (I (o + 1)) md 0 0 6) ls cm (nI 0) (((nI 1) <<< ((nI nl) &&& 31)) - (nI 1)) (nI 0) (nI 0) fa id0 gr lo)) (a := 90) (N := 6) (x := (-1)) ly_90 (by omega) (by decide); rw [cr88_2, cr88_rls] at h; exact h) (m_go ?_)
  show AW _ _ _ _ _ _ _ _ [] _ _ _ _
  refine a_aload_n 0 dCourse_begin_55 rfl rfl ?_
  refine a_geta (r := 91) dCourse_begin_56 fl2_18 rfl ly_88 (by omega) (rf_88_8 hR') ?_
  refine a_iconstN (a := 0) dCourse_begin_59 (by decide) ?_
  refine a_callS (Q' := m_res none (cr88 I (va_cpy (I (o + 1)) md 0 0 6) (m_fill (fun _ => (-1)) ls 6) (m_fill (fun _ => (nI 0)) cm 6) (nI 0) (((nI 1) <<< ((nI nl) &&& 31)) - (nI 1)) (nI 0) (nI 0) fa id0 gr lo) J (m_up R 88 0 (some o))) (as := [.ref 91, .int (nI 0)]) (st := []) dCourse_begin_60 ml2_50 rfl (Nat.le_of_ble_eq_true rfl) (Nat.le_of_ble_eq_true rfl) rfl (Nat.le_refl _) (Nat.le_refl _) (by have h := c_Arrays_fill (S := S) (d := d) (n := n) (J := J) (R := (m_up R 88 0 (some o))) (I := (cr88 I (va_cpy (I (o + 1)) md 0 0 6) (m_fill (fun _ => (-1)) ls 6) cm (nI 0) (((nI 1) <<< ((nI nl) &&& 31)) - (nI 1)) (nI 0) (nI 0) fa id0 gr lo)) (a := 91) (N := 6) (x := (nI 0)) ly_91 (by omega) (by decide); rw [cr88_3, cr88_rcm] at h; exact h) (m_go ?_)
  show AW _ _ _ _ _ _ _ _ [] _ _ _ _
  refine a_aload_n 0 dCourse_begin_63 rfl rfl ?_
  refine a_iconstN (a := 0) dCourse_begin_64 (by decide) ?_
  refine a_puti dCourse_begin_65 fl2_56 rfl ly_88 (by omega) ?_
  rw [cr88_f9]
  refine a_aload_n 0 dCourse_begin_68 rfl rfl ?_
  refine a_aload_n 0 dCourse_begin_69 rfl rfl ?_
  refine a_geta (r := 89) dCourse_begin_70 fl2_9 rfl ly_88 (by omega) (rf_88_6 hR') ?_
  refine a_iconstN (a := 0) dCourse_begin_73 (by decide) ?_
  refine a_ialdN (a := 0) dCourse_begin_74 ly_89 (by omega) (by omega) (by decide) ?_
  rw [show (cr88 I (va_cpy (I (o + 1)) md 0 0 6) (m_fill (fun _ => (-1)) ls 6) (m_fill (fun _ => (nI 0)) cm 6) (nI 0) (((nI 1) <<< ((nI nl) &&& 31)) - (nI 1)) (nI 0) (nI 0) fa id0 (nI 0) lo) 89 0 = I (o + 1) 0 from (by rw [cr88_1]; rfl)]
  refine a_puti dCourse_begin_75 fl2_59 rfl ly_88 (by omega) ?_
  rw [cr88_f10]
  refine a_aload_n 0 dCourse_begin_78 rfl rfl ?_
  refine a_iconstN (a := 0) dCourse_begin_79 (by decide) ?_
  refine a_puti dCourse_begin_80 fl2_62 rfl ly_88 (by omega) ?_
  rw [cr88_f11]
  refine a_aload_n 0 dCourse_begin_83 rfl rfl ?_
  refine a_iconstN (a := 0) dCourse_begin_84 (by decide) ?_
  refine a_puti dCourse_begin_85 fl2_65 rfl ly_88 (by omega) ?_
  rw [cr88_f12]
  refine a_aload_n 0 dCourse_begin_88 rfl rfl ?_
  refine a_callV (Q' := m_res none (cr88 I (va_cpy (I (o + 1)) md 0 0 6) (m_fill (fun _ => (-1)) ls 6) (m_fill (fun _ => (nI 0)) cm 6) (nI 0) (((nI 1) <<< ((nI nl) &&& 31)) - (nI 1)) (nI 0) (nI 0) (nI 0) (nI 0) ((lwN (va_cpy (I (o + 1)) md 0 0 6) ((I (o + 1) 0), (nI 0)) nh).2) ((lwN (va_cpy (I (o + 1)) md 0 0 6) ((I (o + 1) 0), (nI 0)) nh).1)) J (m_up R 88 0 (some o))) (as := []) (st := []) dCourse_begin_89 ml2_68 rfl (Nat.le_of_ble_eq_true rfl) ly_88 rfl rfl (by decide) (by omega) (Nat.le_of_ble_eq_true rfl) rfl (Nat.le_refl _) (Nat.le_refl _) (c_noteLow88 hn hR' ho hr' hon hRo' hh hnh hl hnl) (m_go ?_)
  show AW _ _ _ _ _ _ _ _ [] _ _ _ _
  exact a_vret dCourse_begin_92 rfl ⟨rfl, rfl, rfl, rfl⟩
theorem wk_60 {w : Nat} (hw : w ∈ m_wks) (k : Nat) (hk : k ≤ 3) : w + k ≠ 60 ∧ w + k ≠ 61 ∧ w + k ≠ 62 ∧ w + k ≠ 63 := (show ∀ w ∈ m_wks, ∀ k, k ≤ 3 → (w + k ≠ 60 ∧ w + k ≠ 61 ∧ w + k ≠ 62 ∧ w + k ≠ 63) by decide +kernel) w hw k hk
theorem cr60_wk {I : mI} {md ls cm : Nat → Int32} {ni le sl dn fa id0 gr lo : Int32} {w : Nat} (hw : w ∈ m_wks) (k : Nat) (hk : k ≤ 3) : cr60 I md ls cm ni le sl dn fa id0 gr lo (w + k) = I (w + k) := by
  obtain ⟨h1, h2, h3, h4⟩ := wk_60 hw k hk
  exact cr60_o h1 h2 h3 h4
theorem cr60_wk0 {I : mI} {md ls cm : Nat → Int32} {ni le sl dn fa id0 gr lo : Int32} {w : Nat} (hw : w ∈ m_wks) : cr60 I md ls cm ni le sl dn fa id0 gr lo w = I w := cr60_wk hw 0 (by decide)
/-- deeds one behind another, with the lowest mood -/
def plG (stp : Nat → cS → Option cS) (us : Nat → Nat) (nh : Nat) : Nat → Nat → cS → Int32 × Int32 → Nat × cS × (Int32 × Int32)
  | 0, k, s, p => (k, s, p)
  | m + 1, k, s, p => match stp k s with
    | none => (k, s, p)
    | some s' => plG stp us nh m (k + 1) s' (lwU nh (us k) s' p)
theorem plG_F {stp : Nat → cS → Option cS} {us : Nat → Nat} {nh : Nat} : ∀ (m k : Nat) (s : cS) (p : Int32 × Int32), (plG stp us nh m k s p).1 = (plF stp m k s).1 ∧ (plG stp us nh m k s p).2.1 = (plF stp m k s).2 := by
  intro m
  induction m with
  | zero => intro k s p; exact ⟨rfl, rfl⟩
  | succ m ih =>
    intro k s p
    cases e : stp k s with
    | none => constructor <;> simp [plG, plF, e]
    | some s' =>
      simp only [plG, plF, e]
      exact ih _ _ _
abbrev stC (I : mI) (o w nh nl : Nat) (k : Nat) (s : cS) : Option cS := doF nh nl (I (o + 2)) (dsO I o) (I (o + 5)) (I (o + 3)) nh s (I (w + 1) k).toNatClampNeg (I (w + 2) k) (I (w + 3) k)
abbrev usC (I : mI) (w k : Nat) : Nat := (I (w + 1) k).toNatClampNeg
def WFwc (I : mI) (w c : Nat) : Prop := ∀ k, k < c → ∃ u, u < 4 ∧ I (w + 1) k = nI u
theorem l_run {S : Nat × (Nat → Int32)} {d n : Nat} {I : mI} {J : mJ} {R : mR} (hn : 122 ≤ n) (hR : m_fin R) {o nh nl : Nat} (ho : o ∈ m_offs) (hr : offR R o) (hon : o + 8 < n) (hRo : R 60 0 = some o) (hh : I o 0 = nI nh) (hnh : nh ≤ 6) (hl : I o 1 = nI nl) (hnl : nl ≤ 10) {w : Nat} (hw : w ∈ m_wks) (hwr : wkR R w) (hwn : w + 3 < n) {c N : Nat} (hcc : I w 0 = nI c) (hc : c ≤ 40) (hN : N ≤ c) (hww : WFwc I w c) (hW : WFc I o nl) (hH : WFh (I (o + 2)) nl) {Q : Option Value → mI → mJ → mR → Prop} : ∀ m k (s : cS) (p : Int32 × Int32), k + m = N → WFl s.2.1 → Q (some (.int (nI (plG (stC I o w nh nl) (usC I w) nh m k s p).1))) (ccT I (plG (stC I o w nh nl) (usC I w) nh m k s p).2.1 (plG (stC I o w nh nl) (usC I w) nh m k s p).2.2) J R → AW S (d + 3) YCourse_run n n Q 18 [(5, .int (nI k)), (0, .ref 60), (2, .ref w), (4, .int (nI N))] [] (ccT I s p) J R n := by
  intro m
  induction m with
  | zero =>
    intro k s p hk9 hL hQ
    rw [show k = N by omega] at hQ ⊢
    refine a_iload 0 dCourse_run_18 rfl ?_
    refine a_iload 3 dCourse_run_20 rfl ?_
    refine a_icmp_geN (tgt := 62) dCourse_run_22 (by decide) (by omega) (by omega) (fun _ => ?_) (fun c => False.elim (by omega))
    refine a_iload 3 dCourse_run_62 rfl ?_
    exact a_iret dCourse_run_64 rfl hQ
  | succ m ih =>
    intro k s p hk9 hL hQ
    obtain ⟨u, hu4, hu⟩ := hww k (by omega)
    have hdd := c_mayDoG (S := S) (d := d) (J := J) (s := s) (p := p) (x := I (w + 2) k) (y := I (w + 3) k) hn hR ho hr hon hRo hh hnh hl hnl hu4 hW hH hL
    have eu : stC I o w nh nl k s = doF nh nl (I (o + 2)) (dsO I o) (I (o + 5)) (I (o + 3)) nh s u (I (w + 2) k) (I (w + 3) k) := by unfold stC; rw [hu, nI_clamp (by omega)]
    have eus : usC I w k = u := by unfold usC; rw [hu, nI_clamp (by omega)]
    unfold plG at hQ
    rw [eu, eus] at hQ
    cases e : doF nh nl (I (o + 2)) (dsO I o) (I (o + 5)) (I (o + 3)) nh s u (I (w + 2) k) (I (w + 3) k) with
    | none =>
      rw [e] at hdd hQ
      simp only [if_true] at hdd
      show AW S (d + 3) YCourse_run n n Q 18 [(5, .int (nI k)), (0, .ref 60), (2, .ref w), (4, .int (nI N))] [] (cr60 I s.1 s.2.1 s.2.2.1 s.2.2.2.1 s.2.2.2.2.1 s.2.2.2.2.2.1 s.2.2.2.2.2.2.1 s.2.2.2.2.2.2.2.1 s.2.2.2.2.2.2.2.2 p.2 p.1) J R n
      refine a_iload 0 dCourse_run_18 rfl ?_
      refine a_iload 3 dCourse_run_20 rfl ?_
      refine a_icmp_geN (tgt := 62) dCourse_run_22 (by decide) (by omega) (by omega) (fun c => False.elim (by omega)) (fun _ => ?_)
      refine a_aload_n 1 dCourse_run_25 rfl rfl ?_
      refine a_aload_n 2 dCourse_run_26 rfl rfl ?_
      refine a_geta (r := (w + 1)) dCourse_run_27 fl2_86 rfl (wk_l0 hw) (by omega) (hwr 0 (by decide)) ?_
      refine a_iload 0 dCourse_run_30 rfl ?_
      refine a_ialdN (a := k) dCourse_run_32 (wk_l1 hw) (by omega) (by omega) (by decide) ?_
      rw [show (cr60 I s.1 s.2.1 s.2.2.1 s.2.2.2.1 s.2.2.2.2.1 s.2.2.2.2.2.1 s.2.2.2.2.2.2.1 s.2.2.2.2.2.2.2.1 s.2.2.2.2.2.2.2.2 p.2 p.1) (w + 1) k = (nI u) from (by rw [cr60_wk hw 1 (by decide)]; exact hu)]
      refine a_aload_n 2 dCourse_run_33 rfl rfl ?_
      refine a_geta (r := (w + 2)) dCourse_run_34 fl2_89 rfl (wk_l0 hw) (by omega) (hwr 1 (by decide)) ?_
      refine a_iload 0 dCourse_run_37 rfl ?_
      refine a_ialdN (a := k) dCourse_run_39 (wk_l2 hw) (by omega) (by omega) (by decide) ?_
      rw [show (cr60 I s.1 s.2.1 s.2.2.1 s.2.2.2.1 s.2.2.2.2.1 s.2.2.2.2.2.1 s.2.2.2.2.2.2.1 s.2.2.2.2.2.2.2.1 s.2.2.2.2.2.2.2.2 p.2 p.1) (w + 2) k = I (w + 2) k from (by rw [cr60_wk hw 2 (by decide)])]
      refine a_aload_n 2 dCourse_run_40 rfl rfl ?_
      refine a_geta (r := (w + 3)) dCourse_run_41 fl2_91 rfl (wk_l0 hw) (by omega) (hwr 2 (by decide)) ?_
      refine a_iload 0 dCourse_run_44 rfl ?_
      refine a_ialdN (a := k) dCourse_run_46 (wk_l3 hw) (by omega) (by omega) (by decide) ?_
      rw [show (cr60 I s.1 s.2.1 s.2.2.1 s.2.2.2.1 s.2.2.2.2.1 s.2.2.2.2.2.1 s.2.2.2.2.2.2.1 s.2.2.2.2.2.2.2.1 s.2.2.2.2.2.2.2.2 p.2 p.1) (w + 3) k = I (w + 3) k from (by rw [cr60_wk hw 3 (by decide)])]
      refine a_callV (Q' := m_res (some (.int 0)) (cr60 I s.1 s.2.1 s.2.2.1 s.2.2.2.1 s.2.2.2.2.1 s.2.2.2.2.2.1 s.2.2.2.2.2.2.1 s.2.2.2.2.2.2.2.1 s.2.2.2.2.2.2.2.2 p.2 p.1) J R) (as := [.int (nI u), .int (I (w + 2) k), .int (I (w + 3) k)]) (st := []) dCourse_run_47 ml2_94 rfl (Nat.le_of_ble_eq_true rfl) ly_60 rfl rfl (by decide) (by omega) (Nat.le_of_ble_eq_true rfl) rfl (Nat.le_refl _) (Nat.le_refl _) hdd (m_go ?_)
      show AW _ _ _ _ _ _ _ _ [.int 0] _ _ _ _
      refine a_if_ne (tgt := 56) dCourse_run_50 (by decide) (fun c => False.elim (c rfl)) (fun _ => ?_)
      refine a_iload 0 dCourse_run_53 rfl ?_
      exact a_iret dCourse_run_55 rfl hQ
    | some s' =>
      rw [e] at hdd hQ
      simp only [reduceCtorEq, if_false] at hdd
      show AW S (d + 3) YCourse_run n n Q 18 [(5, .int (nI k)), (0, .ref 60), (2, .ref w), (4, .int (nI N))] [] (cr60 I s.1 s.2.1 s.2.2.1 s.2.2.2.1 s.2.2.2.2.1 s.2.2.2.2.2.1 s.2.2.2.2.2.2.1 s.2.2.2.2.2.2.2.1 s.2.2.2.2.2.2.2.2 p.2 p.1) J R n
      refine a_iload 0 dCourse_run_18 rfl ?_
      refine a_iload 3 dCourse_run_20 rfl ?_
      refine a_icmp_geN (tgt := 62) dCourse_run_22 (by decide) (by omega) (by omega) (fun c => False.elim (by omega)) (fun _ => ?_)
      refine a_aload_n 1 dCourse_run_25 rfl rfl ?_
      refine a_aload_n 2 dCourse_run_26 rfl rfl ?_
      refine a_geta (r := (w + 1)) dCourse_run_27 fl2_86 rfl (wk_l0 hw) (by omega) (hwr 0 (by decide)) ?_
      refine a_iload 0 dCourse_run_30 rfl ?_
      refine a_ialdN (a := k) dCourse_run_32 (wk_l1 hw) (by omega) (by omega) (by decide) ?_
      rw [show (cr60 I s.1 s.2.1 s.2.2.1 s.2.2.2.1 s.2.2.2.2.1 s.2.2.2.2.2.1 s.2.2.2.2.2.2.1 s.2.2.2.2.2.2.2.1 s.2.2.2.2.2.2.2.2 p.2 p.1) (w + 1) k = (nI u) from (by rw [cr60_wk hw 1 (by decide)]; exact hu)]
      refine a_aload_n 2 dCourse_run_33 rfl rfl ?_
      refine a_geta (r := (w + 2)) dCourse_run_34 fl2_89 rfl (wk_l0 hw) (by omega) (hwr 1 (by decide)) ?_
      refine a_iload 0 dCourse_run_37 rfl ?_
      refine a_ialdN (a := k) dCourse_run_39 (wk_l2 hw) (by omega) (by omega) (by decide) ?_
      rw [show (cr60 I s.1 s.2.1 s.2.2.1 s.2.2.2.1 s.2.2.2.2.1 s.2.2.2.2.2.1 s.2.2.2.2.2.2.1 s.2.2.2.2.2.2.2.1 s.2.2.2.2.2.2.2.2 p.2 p.1) (w + 2) k = I (w + 2) k from (by rw [cr60_wk hw 2 (by decide)])]
      refine a_aload_n 2 dCourse_run_40 rfl rfl ?_
      refine a_geta (r := (w + 3)) dCourse_run_41 fl2_91 rfl (wk_l0 hw) (by omega) (hwr 2 (by decide)) ?_
      refine a_iload 0 dCourse_run_44 rfl ?_
      refine a_ialdN (a := k) dCourse_run_46 (wk_l3 hw) (by omega) (by omega) (by decide) ?_
      rw [show (cr60 I s.1 s.2.1 s.2.2.1 s.2.2.2.1 s.2.2.2.2.1 s.2.2.2.2.2.1 s.2.2.2.2.2.2.1 s.2.2.2.2.2.2.2.1 s.2.2.2.2.2.2.2.2 p.2 p.1) (w + 3) k = I (w + 3) k from (by rw [cr60_wk hw 3 (by decide)])]
      refine a_callV (Q' := m_res (some (.int 1)) (ccT I s' (lwU nh u s' p)) J R) (as := [.int (nI u), .int (I (w + 2) k), .int (I (w + 3) k)]) (st := []) dCourse_run_47 ml2_94 rfl (Nat.le_of_ble_eq_true rfl) ly_60 rfl rfl (by decide) (by omega) (Nat.le_of_ble_eq_true rfl) rfl (Nat.le_refl _) (Nat.le_refl _) hdd (m_go ?_)
      show AW _ _ _ _ _ _ _ _ [.int 1] _ _ _ _
      refine a_if_ne (tgt := 56) dCourse_run_50 (by decide) (fun _ => ?_) (fun c => False.elim (absurd c (by decide)))
      refine a_iincN (lv' := [(5, .int (nI (k + 1))), (0, .ref 60), (2, .ref w), (4, .int (nI N))]) (j := 0) dCourse_run_56 rfl (by decide) rfl ?_
      refine a_goto (tgt := 18) dCourse_run_59 (by decide) ?_
      refine a_locs (lv' := [(5, .int (nI (k + 1))), (0, .ref 60), (2, .ref w), (4, .int (nI N))]) [0, 1, 2, 3] rfl ?_
      exact ih (k + 1) s' _ (by omega) (doF_WFl hnl (fun l hl => hW.kok hl) hL e) hQ
abbrev opI (I : mI) (o nl : Nat) : cS := opC I (I 61) (I 62) (I 63) o nl
abbrev opQ (I : mI) (o nh : Nat) : Int32 × Int32 := opP I (I 61) o nh
/-- the class's run of the first N deeds of a week -/
abbrev plC (I : mI) (o w nh nl N : Nat) : Nat × cS × (Int32 × Int32) := plG (stC I o w nh nl) (usC I w) nh N 0 (opI I o nl) (opQ I o nh)
theorem wkR_60 {R : mR} {w v : Nat} (hw : w ∈ m_wks) (h : wkR R w) : wkR (m_up R 60 0 (some v)) w := fun k hk => by
  rw [m_up_ne (by have := (wk_60 hw 0 (by decide)).1; omega)]
  exact h k hk
theorem c_begin0 {S : Nat × (Nat → Int32)} {d n : Nat} {I : mI} {J : mJ} {R : mR} (hn : 122 ≤ n) (hR : m_fin R) {o nh nl : Nat} (ho : o ∈ m_offs) (hr : offR R o) (hon : o + 8 < n) (hh : I o 0 = nI nh) (hnh : nh ≤ 6) (hl : I o 1 = nI nl) (hnl : nl ≤ 10) : RUN S (d + 1) YCourse_begin [.ref 60, .ref o] I J R n none (ccT I (opI I o nl) (opQ I o nh)) J (m_up R 60 0 (some o)) n := by
  have h := c_begin (S := S) (d := d) (J := J) (md := I 61) (ls := I 62) (cm := I 63) (ni := I 60 3) (le := I 60 2) (sl := I 60 4) (dn := I 60 5) (fa := I 60 11) (id0 := I 60 12) (gr := I 60 9) (lo := I 60 10) hn hR ho hr hon hh hnh hl hnl
  rw [cr60_self] at h
  exact h
theorem c_run {S : Nat × (Nat → Int32)} {d n : Nat} {I : mI} {J : mJ} {R : mR} (hn : 122 ≤ n) (hR : m_fin R) {o nh nl : Nat} (ho : o ∈ m_offs) (hr : offR R o) (hon : o + 8 < n) (hh : I o 0 = nI nh) (hnh : nh ≤ 6) (hl : I o 1 = nI nl) (hnl : nl ≤ 10) {w : Nat} (hw : w ∈ m_wks) (hwr : wkR R w) (hwn : w + 3 < n) {c N : Nat} (hcc : I w 0 = nI c) (hc : c ≤ 40) (hN : N ≤ c) (hww : WFwc I w c) (hW : WFc I o nl) (hH : WFh (I (o + 2)) nl) : RUN S (d + 3) YCourse_run [.ref 60, .ref o, .ref w, .int (nI N)] I J R n (some (.int (nI (plC I o w nh nl N).1))) (ccT I (plC I o w nh nl N).2.1 (plC I o w nh nl N).2.2) J (m_up R 60 0 (some o)) n := by
  have hR' := fin_60 (o := o) hR
  have hr' := offR_60 (v := o) ho hr
  have hRo' : m_up R 60 0 (some o) 60 0 = some o := m_up_at
  have hwr' := wkR_60 (v := o) hw hwr
  show AW S _ YCourse_run n n _ 0 [(0, .ref 60), (1, .ref o), (2, .ref w), (3, .int (nI N))] [] I J R n
  refine a_aload_n 0 dCourse_run_0 rfl rfl ?_
  refine a_aload_n 1 dCourse_run_1 rfl rfl ?_
  refine a_callV (Q' := m_res none (ccT I (opI I o nl) (opQ I o nh)) J (m_up R 60 0 (some o))) (as := [.ref o]) (st := []) dCourse_run_2 ml2_71 rfl (Nat.le_of_ble_eq_true rfl) ly_60 rfl rfl (by decide) (by omega) (Nat.le_of_ble_eq_true rfl) rfl (Nat.le_refl _) (Nat.le_refl _) (c_begin0 hn hR ho hr hon hh hnh hl hnl) (m_go ?_)
  show AW _ _ _ _ _ _ _ _ [] _ _ _ _
  refine a_iload_n 3 dCourse_run_5 rfl rfl ?_
  refine a_aload_n 2 dCourse_run_6 rfl rfl ?_
  refine a_geti dCourse_run_7 fl2_75 rfl (wk_l0 hw) (by omega) ?_
  rw [show (ccT I (opI I o nl) (opQ I o nh)) w 0 = (nI c) from (by rw [show ccT I (opI I o nl) (opQ I o nh) w = I w from cr60_wk0 hw]; exact hcc)]
  refine a_min dCourse_run_10 mm2_80 (Nat.le_of_ble_eq_true rfl) (Nat.le_refl _) ?_
  rw [show (if (nI c) < (nI N) then (nI c) else (nI N)) = (nI N) from if_neg (nI_nlt hN (by omega))]
  refine a_istore (lv' := [(4, .int (nI N)), (0, .ref 60), (1, .ref o), (2, .ref w), (3, .int (nI N))]) dCourse_run_13 (by decide) rfl ?_
  refine a_iconstN (a := 0) dCourse_run_15 (by decide) ?_
  refine a_istore (lv' := [(5, .int (nI 0)), (4, .int (nI N)), (0, .ref 60), (1, .ref o), (2, .ref w), (3, .int (nI N))]) dCourse_run_16 (by decide) rfl ?_
  refine a_locs (lv' := [(5, .int (nI 0)), (0, .ref 60), (2, .ref w), (4, .int (nI N))]) [0, 2, 4, 1] rfl ?_
  exact l_run hn hR' ho hr' hon hRo' hh hnh hl hnl hw hwr' hwn hcc hc hN hww hW hH N 0 _ _ (by omega) opC_WFl ⟨rfl, rfl, rfl, rfl⟩
