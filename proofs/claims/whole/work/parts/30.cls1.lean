theorem m_lt0 {x y : Int32} (h : x < 0) (hy : 0 < y) : x < y := Int32.lt_trans h hy
theorem f_of_z {j m : Nat} (hj : j < 2 ^ 31) (hm : m < 2 ^ 31) : f_of (nI j) (nI m) = 0 ↔ m ≤ j := by
  unfold f_of
  rw [if_neg (nI_pos hj)]
  by_cases h : m ≤ j
  · rw [if_pos (nI_le h hj)]; exact ⟨fun _ => h, fun _ => rfl⟩
  · rw [if_neg (nI_ge (by omega) hm)]; exact ⟨fun c => absurd c (by decide), fun c => absurd c h⟩
/-- the offices' cells -/
def m_offs : List Nat := [5, 14, 41, 71, 126, 135, 164, 173, 202, 211]
def offR (R : mR) (o : Nat) : Prop := ∀ k, k < 8 → R o (3 + k) = some (o + 1 + k)
theorem of_l0 {o : Nat} (h : o ∈ m_offs) : m_lay o = (4, 11) := (show ∀ o ∈ m_offs, m_lay o = (4, 11) by decide +kernel) o h
theorem of_l1 {o : Nat} (h : o ∈ m_offs) : m_lay (o + 1) = (50, 6) := (show ∀ o ∈ m_offs, m_lay (o + 1) = (50, 6) by decide +kernel) o h
theorem of_l2 {o : Nat} (h : o ∈ m_offs) : m_lay (o + 2) = (50, 10) := (show ∀ o ∈ m_offs, m_lay (o + 2) = (50, 10) by decide +kernel) o h
theorem of_l3 {o : Nat} (h : o ∈ m_offs) : m_lay (o + 3) = (50, 10) := (show ∀ o ∈ m_offs, m_lay (o + 3) = (50, 10) by decide +kernel) o h
theorem of_l4 {o : Nat} (h : o ∈ m_offs) : m_lay (o + 4) = (50, 10) := (show ∀ o ∈ m_offs, m_lay (o + 4) = (50, 10) by decide +kernel) o h
theorem of_l5 {o : Nat} (h : o ∈ m_offs) : m_lay (o + 5) = (50, 10) := (show ∀ o ∈ m_offs, m_lay (o + 5) = (50, 10) by decide +kernel) o h
theorem of_l6 {o : Nat} (h : o ∈ m_offs) : m_lay (o + 6) = (50, 10) := (show ∀ o ∈ m_offs, m_lay (o + 6) = (50, 10) by decide +kernel) o h
theorem of_l7 {o : Nat} (h : o ∈ m_offs) : m_lay (o + 7) = (50, 10) := (show ∀ o ∈ m_offs, m_lay (o + 7) = (50, 10) by decide +kernel) o h
theorem of_l8 {o : Nat} (h : o ∈ m_offs) : m_lay (o + 8) = (50, 16) := (show ∀ o ∈ m_offs, m_lay (o + 8) = (50, 16) by decide +kernel) o h
theorem c_Office_hasHouse {S : Nat × (Nat → Int32)} {d n : Nat} {I : mI} {J : mJ} {R : mR} {h : Int32} {o : Nat} (ho : o ∈ m_offs) (hr : offR R o) (hon : o + 8 < n) : RUN S d YOffice_hasHouse [.ref o, .int h] I J R n (some (.int (f_of h (I o 0)))) I J R n := by
  show AW S _ YOffice_hasHouse n n _ 0 [(0, .ref o), (1, .int h)] [] I J R n
  refine a_iload_n 1 dOffice_hasHouse_0 rfl rfl ?_
  refine a_if_lt (tgt := 16) dOffice_hasHouse_1 (by decide) (fun c1 => ?_) (fun c1 => ?_)
  · refine a_iconst (v := 0) dOffice_hasHouse_16 (by decide) ?_
    exact a_zret dOffice_hasHouse_17 rfl (by rfl) ⟨by simp [f_of, *], rfl, rfl, rfl⟩
  · refine a_iload_n 1 dOffice_hasHouse_4 rfl rfl ?_
    refine a_aload_n 0 dOffice_hasHouse_5 rfl rfl ?_
    refine a_geti dOffice_hasHouse_6 fl4_36 rfl (of_l0 ho) (by omega) ?_
    refine a_icmp_ge (tgt := 16) dOffice_hasHouse_9 (by decide) (fun c9 => ?_) (fun c9 => ?_)
    · refine a_iconst (v := 0) dOffice_hasHouse_16 (by decide) ?_
      exact a_zret dOffice_hasHouse_17 rfl (by rfl) ⟨by simp [f_of, *], rfl, rfl, rfl⟩
    · refine a_iconst (v := 1) dOffice_hasHouse_12 (by decide) ?_
      refine a_goto (tgt := 17) dOffice_hasHouse_13 (by decide) ?_
      exact a_zret dOffice_hasHouse_17 rfl (by rfl) ⟨by simp [f_of, *], rfl, rfl, rfl⟩
theorem c_Office_hasLetter {S : Nat × (Nat → Int32)} {d n : Nat} {I : mI} {J : mJ} {R : mR} {h : Int32} {o : Nat} (ho : o ∈ m_offs) (hr : offR R o) (hon : o + 8 < n) : RUN S d YOffice_hasLetter [.ref o, .int h] I J R n (some (.int (f_of h (I o 1)))) I J R n := by
  show AW S _ YOffice_hasLetter n n _ 0 [(0, .ref o), (1, .int h)] [] I J R n
  refine a_iload_n 1 dOffice_hasLetter_0 rfl rfl ?_
  refine a_if_lt (tgt := 16) dOffice_hasLetter_1 (by decide) (fun c1 => ?_) (fun c1 => ?_)
  · refine a_iconst (v := 0) dOffice_hasLetter_16 (by decide) ?_
    exact a_zret dOffice_hasLetter_17 rfl (by rfl) ⟨by simp [f_of, *], rfl, rfl, rfl⟩
  · refine a_iload_n 1 dOffice_hasLetter_4 rfl rfl ?_
    refine a_aload_n 0 dOffice_hasLetter_5 rfl rfl ?_
    refine a_geti dOffice_hasLetter_6 fl4_40 rfl (of_l0 ho) (by omega) ?_
    refine a_icmp_ge (tgt := 16) dOffice_hasLetter_9 (by decide) (fun c9 => ?_) (fun c9 => ?_)
    · refine a_iconst (v := 0) dOffice_hasLetter_16 (by decide) ?_
      exact a_zret dOffice_hasLetter_17 rfl (by rfl) ⟨by simp [f_of, *], rfl, rfl, rfl⟩
    · refine a_iconst (v := 1) dOffice_hasLetter_12 (by decide) ?_
      refine a_goto (tgt := 17) dOffice_hasLetter_13 (by decide) ?_
      exact a_zret dOffice_hasLetter_17 rfl (by rfl) ⟨by simp [f_of, *], rfl, rfl, rfl⟩
theorem m_swo0_2 {x : Int32} (h0 : ¬ x = 0) (h1 : ¬ x = 1) (h2 : ¬ x = 2) : x.toInt < 0 ∨ 2 < x.toInt := by
  by_cases q1 : x.toInt < 0
  · exact Or.inl q1
  · by_cases q2 : 2 < x.toInt
    · exact Or.inr q2
    · exfalso
      rcases (show x.toInt = 0 ∨ x.toInt = 1 ∨ x.toInt = 2 by omega) with q | q | q
      · exact h0 (Int32.toInt_inj.mp q)
      · exact h1 (Int32.toInt_inj.mp q)
      · exact h2 (Int32.toInt_inj.mp q)
theorem m_swo0_3 {x : Int32} (h0 : ¬ x = 0) (h1 : ¬ x = 1) (h2 : ¬ x = 2) (h3 : ¬ x = 3) : x.toInt < 0 ∨ 3 < x.toInt := by
  by_cases q1 : x.toInt < 0
  · exact Or.inl q1
  · by_cases q2 : 3 < x.toInt
    · exact Or.inr q2
    · exfalso
      rcases (show x.toInt = 0 ∨ x.toInt = 1 ∨ x.toInt = 2 ∨ x.toInt = 3 by omega) with q | q | q | q
      · exact h0 (Int32.toInt_inj.mp q)
      · exact h1 (Int32.toInt_inj.mp q)
      · exact h2 (Int32.toInt_inj.mp q)
      · exact h3 (Int32.toInt_inj.mp q)
theorem m_swo0_4 {x : Int32} (h0 : ¬ x = 0) (h1 : ¬ x = 1) (h2 : ¬ x = 2) (h3 : ¬ x = 3) (h4 : ¬ x = 4) : x.toInt < 0 ∨ 4 < x.toInt := by
  by_cases q1 : x.toInt < 0
  · exact Or.inl q1
  · by_cases q2 : 4 < x.toInt
    · exact Or.inr q2
    · exfalso
      rcases (show x.toInt = 0 ∨ x.toInt = 1 ∨ x.toInt = 2 ∨ x.toInt = 3 ∨ x.toInt = 4 by omega) with q | q | q | q | q
      · exact h0 (Int32.toInt_inj.mp q)
      · exact h1 (Int32.toInt_inj.mp q)
      · exact h2 (Int32.toInt_inj.mp q)
      · exact h3 (Int32.toInt_inj.mp q)
      · exact h4 (Int32.toInt_inj.mp q)
theorem m_swo1_3 {x : Int32} (h1 : ¬ x = 1) (h2 : ¬ x = 2) (h3 : ¬ x = 3) : x.toInt < 1 ∨ 3 < x.toInt := by
  by_cases q1 : x.toInt < 1
  · exact Or.inl q1
  · by_cases q2 : 3 < x.toInt
    · exact Or.inr q2
    · exfalso
      rcases (show x.toInt = 1 ∨ x.toInt = 2 ∨ x.toInt = 3 by omega) with q | q | q
      · exact h1 (Int32.toInt_inj.mp q)
      · exact h2 (Int32.toInt_inj.mp q)
      · exact h3 (Int32.toInt_inj.mp q)
theorem m_swo2_6 {x : Int32} (h2 : ¬ x = 2) (h3 : ¬ x = 3) (h4 : ¬ x = 4) (h5 : ¬ x = 5) (h6 : ¬ x = 6) : x.toInt < 2 ∨ 6 < x.toInt := by
  by_cases q1 : x.toInt < 2
  · exact Or.inl q1
  · by_cases q2 : 6 < x.toInt
    · exact Or.inr q2
    · exfalso
      rcases (show x.toInt = 2 ∨ x.toInt = 3 ∨ x.toInt = 4 ∨ x.toInt = 5 ∨ x.toInt = 6 by omega) with q | q | q | q | q
      · exact h2 (Int32.toInt_inj.mp q)
      · exact h3 (Int32.toInt_inj.mp q)
      · exact h4 (Int32.toInt_inj.mp q)
      · exact h5 (Int32.toInt_inj.mp q)
      · exact h6 (Int32.toInt_inj.mp q)
def szF (a b c : Int32) (w : Int32) : Int32 := if w = 0 then a else if w = 1 then b else if w = 2 then c else -2
theorem c_Office_sizeOf {S : Nat × (Nat → Int32)} {d n : Nat} {I : mI} {J : mJ} {R : mR} {w : Int32} {o : Nat} (ho : o ∈ m_offs) (hr : offR R o) (hon : o + 8 < n) : RUN S d YOffice_sizeOf [.ref o, .int w] I J R n (some (.int (szF (I o 0) (I o 1) (I o 2) w))) I J R n := by
  show AW S _ YOffice_sizeOf n n _ 0 [(0, .ref o), (1, .int w)] [] I J R n
  refine a_iload_n 1 dOffice_sizeOf_0 rfl rfl ?_
  by_cases hs0 : w = 0
  · refine a_tab (off := 27) (tgt := 28) dOffice_sizeOf_1 hs0 (by decide) (by decide) (by decide) (by decide) ?_
    refine a_aload_n 0 dOffice_sizeOf_28 rfl rfl ?_
    refine a_geti dOffice_sizeOf_29 fl4_36 rfl (of_l0 ho) (by omega) ?_
    exact a_iret dOffice_sizeOf_32 rfl ⟨by simp [szF, *], rfl, rfl, rfl⟩
  by_cases hs1 : w = 1
  · refine a_tab (off := 32) (tgt := 33) dOffice_sizeOf_1 hs1 (by decide) (by decide) (by decide) (by decide) ?_
    refine a_aload_n 0 dOffice_sizeOf_33 rfl rfl ?_
    refine a_geti dOffice_sizeOf_34 fl4_40 rfl (of_l0 ho) (by omega) ?_
    exact a_iret dOffice_sizeOf_37 rfl ⟨by simp [szF, *], rfl, rfl, rfl⟩
  by_cases hs2 : w = 2
  · refine a_tab (off := 37) (tgt := 38) dOffice_sizeOf_1 hs2 (by decide) (by decide) (by decide) (by decide) ?_
    refine a_aload_n 0 dOffice_sizeOf_38 rfl rfl ?_
    refine a_geti dOffice_sizeOf_39 fl4_43 rfl (of_l0 ho) (by omega) ?_
    exact a_iret dOffice_sizeOf_42 rfl ⟨by simp [szF, *], rfl, rfl, rfl⟩
  refine a_tableOut (tgt := 43) dOffice_sizeOf_1 (m_swo0_2 hs0 hs1 hs2) (by decide) ?_
  refine a_bipush (v := -2) dOffice_sizeOf_43 (by decide) ?_
  exact a_iret dOffice_sizeOf_45 rfl ⟨by simp [szF, *], rfl, rfl, rfl⟩
def olF (a b c d e : Int32) (w : Int32) : Int32 := if w = 2 then a else if w = 3 then b else if w = 4 then c else if w = 5 then d else if w = 6 then e else -2
theorem c_Office_ofLetter {S : Nat × (Nat → Int32)} {d n : Nat} {I : mI} {J : mJ} {R : mR} {w : Int32} {l : Nat} (hl : l < 10) {o : Nat} (ho : o ∈ m_offs) (hr : offR R o) (hon : o + 8 < n) : RUN S d YOffice_ofLetter [.ref o, .int w, .int (nI l)] I J R n (some (.int (olF (I (o + 2) l) (I (o + 3) l) (I (o + 4) l) (I (o + 6) l) (I (o + 7) l) w))) I J R n := by
  show AW S _ YOffice_ofLetter n n _ 0 [(0, .ref o), (1, .int w), (2, .int (nI l))] [] I J R n
  refine a_iload_n 1 dOffice_ofLetter_0 rfl rfl ?_
  by_cases hs2 : w = 2
  · refine a_tab (off := 35) (tgt := 36) dOffice_ofLetter_1 hs2 (by decide) (by decide) (by decide) (by decide) ?_
    refine a_aload_n 0 dOffice_ofLetter_36 rfl rfl ?_
    refine a_geta (r := (o + 2)) dOffice_ofLetter_37 fl4_15 rfl (of_l0 ho) (by omega) (hr 1 (by decide)) ?_
    refine a_iload_n 2 dOffice_ofLetter_40 rfl rfl ?_
    refine a_ialdN (a := l) dOffice_ofLetter_41 (of_l2 ho) (by omega) (by omega) (by decide) ?_
    exact a_iret dOffice_ofLetter_42 rfl ⟨by simp [olF, *], rfl, rfl, rfl⟩
  by_cases hs3 : w = 3
  · refine a_tab (off := 42) (tgt := 43) dOffice_ofLetter_1 hs3 (by decide) (by decide) (by decide) (by decide) ?_
    refine a_aload_n 0 dOffice_ofLetter_43 rfl rfl ?_
    refine a_geta (r := (o + 3)) dOffice_ofLetter_44 fl4_18 rfl (of_l0 ho) (by omega) (hr 2 (by decide)) ?_
    refine a_iload_n 2 dOffice_ofLetter_47 rfl rfl ?_
    refine a_ialdN (a := l) dOffice_ofLetter_48 (of_l3 ho) (by omega) (by omega) (by decide) ?_
    exact a_iret dOffice_ofLetter_49 rfl ⟨by simp [olF, *], rfl, rfl, rfl⟩
  by_cases hs4 : w = 4
  · refine a_tab (off := 49) (tgt := 50) dOffice_ofLetter_1 hs4 (by decide) (by decide) (by decide) (by decide) ?_
    refine a_aload_n 0 dOffice_ofLetter_50 rfl rfl ?_
    refine a_geta (r := (o + 4)) dOffice_ofLetter_51 fl4_21 rfl (of_l0 ho) (by omega) (hr 3 (by decide)) ?_
    refine a_iload_n 2 dOffice_ofLetter_54 rfl rfl ?_
    refine a_ialdN (a := l) dOffice_ofLetter_55 (of_l4 ho) (by omega) (by omega) (by decide) ?_
    exact a_iret dOffice_ofLetter_56 rfl ⟨by simp [olF, *], rfl, rfl, rfl⟩
  by_cases hs5 : w = 5
  · refine a_tab (off := 56) (tgt := 57) dOffice_ofLetter_1 hs5 (by decide) (by decide) (by decide) (by decide) ?_
    refine a_aload_n 0 dOffice_ofLetter_57 rfl rfl ?_
    refine a_geta (r := (o + 6)) dOffice_ofLetter_58 fl4_27 rfl (of_l0 ho) (by omega) (hr 5 (by decide)) ?_
    refine a_iload_n 2 dOffice_ofLetter_61 rfl rfl ?_
    refine a_ialdN (a := l) dOffice_ofLetter_62 (of_l6 ho) (by omega) (by omega) (by decide) ?_
    exact a_iret dOffice_ofLetter_63 rfl ⟨by simp [olF, *], rfl, rfl, rfl⟩
  by_cases hs6 : w = 6
  · refine a_tab (off := 63) (tgt := 64) dOffice_ofLetter_1 hs6 (by decide) (by decide) (by decide) (by decide) ?_
    refine a_aload_n 0 dOffice_ofLetter_64 rfl rfl ?_
    refine a_geta (r := (o + 7)) dOffice_ofLetter_65 fl4_30 rfl (of_l0 ho) (by omega) (hr 6 (by decide)) ?_
    refine a_iload_n 2 dOffice_ofLetter_68 rfl rfl ?_
    refine a_ialdN (a := l) dOffice_ofLetter_69 (of_l7 ho) (by omega) (by omega) (by decide) ?_
    exact a_iret dOffice_ofLetter_70 rfl ⟨by simp [olF, *], rfl, rfl, rfl⟩
  refine a_tableOut (tgt := 71) dOffice_ofLetter_1 (m_swo2_6 hs2 hs3 hs4 hs5 hs6) (by decide) ?_
  refine a_bipush (v := -2) dOffice_ofLetter_71 (by decide) ?_
  exact a_iret dOffice_ofLetter_73 rfl ⟨by simp [olF, *], rfl, rfl, rfl⟩
/-- what an office says of itself, by what is asked -/
def ansW (nh nl : Nat) (s0 s1 s2 : Int32) (md : Nat → Int32) (r2 r3 r4 r5 r6 tm : Nat → Int32) (w : Nat) : Int32 :=
  if 100 ≤ w then (if w < 116 then tm (w - 100) else -2)
  else if w < 10 then szF s0 s1 s2 (nI w)
  else if w < 20 then (if w % 10 < nh then md (w % 10) else -2)
  else if w % 10 < nl then olF (r2 (w % 10)) (r3 (w % 10)) (r4 (w % 10)) (r5 (w % 10)) (r6 (w % 10)) (nI (w / 10)) else -2
theorem c_Office_answerN {S : Nat × (Nat → Int32)} {d n : Nat} {I : mI} {J : mJ} {R : mR} {o : Nat} (ho : o ∈ m_offs) (hr : offR R o) (hon : o + 8 < n) {w nh nl : Nat} (hw : w < 2 ^ 31) (hh : I o 0 = nI nh) (hnh : nh ≤ 6) (hl : I o 1 = nI nl) (hnl : nl ≤ 10)  : RUN S (d + 1) YOffice_answer [.ref o, .int (nI w)] I J R n (some (.int (ansW nh nl (I o 0) (I o 1) (I o 2) (I (o + 1)) (I (o + 2)) (I (o + 3)) (I (o + 4)) (I (o + 6)) (I (o + 7)) (I (o + 8)) w))) I J R n := by
  show AW S _ YOffice_answer n n _ 0 [(0, .ref o), (1, .int (nI w))] [] I J R n
  refine a_iload_n 1 dOffice_answer_0 rfl rfl ?_
  refine a_bipushN (a := 100) dOffice_answer_1 (by decide) ?_
  refine a_icmp_ltN (tgt := 27) dOffice_answer_3 (by decide) (by omega) (by omega) (fun c3 => ?_) (fun c3 => ?_)
  · refine a_iload_n 1 dOffice_answer_27 rfl rfl ?_
    refine a_if_ge (tgt := 34) dOffice_answer_28 (by decide) (fun _ => ?_) (fun c => False.elim (c (nI_pos' (by omega))))
    refine a_iload_n 1 dOffice_answer_34 rfl rfl ?_
    refine a_bipushN (a := 10) dOffice_answer_35 (by decide) ?_
    refine a_icmp_geN (tgt := 46) dOffice_answer_37 (by decide) (by omega) (by omega) (fun c37 => ?_) (fun c37 => ?_)
    · refine a_iload_n 1 dOffice_answer_46 rfl rfl ?_
      refine a_bipushN (a := 10) dOffice_answer_47 (by decide) ?_
      refine a_iremN dOffice_answer_49 (by omega) (by omega) (by omega) ?_
      refine a_istore_n (lv' := [(2, .int (nI (w % 10))), (0, .ref o), (1, .int (nI w))]) dOffice_answer_50 rfl (by decide) rfl ?_
      refine a_iload_n 2 dOffice_answer_51 rfl rfl ?_
      refine a_bipushN (a := 20) dOffice_answer_52 (by decide) ?_
      refine a_icmp_geN (tgt := 77) dOffice_answer_54 (by decide) (by omega) (by omega) (fun c54 => ?_) (fun c54 => ?_)
      · refine a_aload_n 1 dOffice_answer_77 rfl rfl ?_
        refine a_iload_n 0 dOffice_answer_78 rfl rfl ?_
        refine a_callV (Q' := m_res (some (.int (f_of (nI (w % 10)) (I o 1)))) I J R) (as := [.int (nI (w % 10))]) (st := []) dOffice_answer_79 ml4_66 rfl (Nat.le_of_ble_eq_true rfl) (of_l0 ho) rfl rfl (by decide) (by omega) (Nat.le_of_ble_eq_true rfl) rfl (Nat.le_refl _) (Nat.le_refl _) (c_Office_hasLetter ho hr hon) (m_go ?_)
        show AW _ _ _ _ _ _ _ _ [.int (f_of (nI (w % 10)) (I o 1))] _ _ _ _
        refine a_if_eq (tgt := 97) dOffice_answer_82 (by decide) (fun c82 => ?_) (fun c82 => ?_)
        · refine a_bipush (v := -2) dOffice_answer_97 (by decide) ?_
          exact a_iret dOffice_answer_99 rfl ⟨congrArg (fun x => some (Value.int x)) ((by symm; (unfold ansW; (try rw [hh, f_of_z (by omega) (by omega)] at c62); (try rw [hl, f_of_z (by omega) (by omega)] at c82); repeat (first | rw [if_pos (by omega)] | rw [if_neg (by omega)])))), rfl, rfl, rfl⟩
        · refine a_aload_n 1 dOffice_answer_85 rfl rfl ?_
          refine a_iload_n 2 dOffice_answer_86 rfl rfl ?_
          refine a_bipushN (a := 10) dOffice_answer_87 (by decide) ?_
          refine a_idivN dOffice_answer_89 (by omega) (by omega) (by omega) ?_
          refine a_iload_n 0 dOffice_answer_90 rfl rfl ?_
          refine a_callV (Q' := m_res (some (.int (olF (I (o + 2) (w % 10)) (I (o + 3) (w % 10)) (I (o + 4) (w % 10)) (I (o + 6) (w % 10)) (I (o + 7) (w % 10)) (nI (w / 10))))) I J R) (as := [.int (nI (w / 10)), .int (nI (w % 10))]) (st := []) dOffice_answer_91 ml4_69 rfl (Nat.le_of_ble_eq_true rfl) (of_l0 ho) rfl rfl (by decide) (by omega) (Nat.le_of_ble_eq_true rfl) rfl (Nat.le_refl _) (Nat.le_refl _) (c_Office_ofLetter (by rw [hl, f_of_z (by omega) (by omega)] at c82; omega) ho hr hon) (m_go ?_)
          show AW _ _ _ _ _ _ _ _ [.int (olF (I (o + 2) (w % 10)) (I (o + 3) (w % 10)) (I (o + 4) (w % 10)) (I (o + 6) (w % 10)) (I (o + 7) (w % 10)) (nI (w / 10)))] _ _ _ _
          refine a_goto (tgt := 99) dOffice_answer_94 (by decide) ?_
          exact a_iret dOffice_answer_99 rfl ⟨congrArg (fun x => some (Value.int x)) ((by symm; (unfold ansW; (try rw [hh, f_of_z (by omega) (by omega)] at c62); (try rw [hl, f_of_z (by omega) (by omega)] at c82); repeat (first | rw [if_pos (by omega)] | rw [if_neg (by omega)])))), rfl, rfl, rfl⟩
      · refine a_aload_n 1 dOffice_answer_57 rfl rfl ?_
        refine a_iload_n 0 dOffice_answer_58 rfl rfl ?_
        refine a_callV (Q' := m_res (some (.int (f_of (nI (w % 10)) (I o 0)))) I J R) (as := [.int (nI (w % 10))]) (st := []) dOffice_answer_59 ml4_62 rfl (Nat.le_of_ble_eq_true rfl) (of_l0 ho) rfl rfl (by decide) (by omega) (Nat.le_of_ble_eq_true rfl) rfl (Nat.le_refl _) (Nat.le_refl _) (c_Office_hasHouse ho hr hon) (m_go ?_)
        show AW _ _ _ _ _ _ _ _ [.int (f_of (nI (w % 10)) (I o 0))] _ _ _ _
        refine a_if_eq (tgt := 74) dOffice_answer_62 (by decide) (fun c62 => ?_) (fun c62 => ?_)
        · refine a_bipush (v := -2) dOffice_answer_74 (by decide) ?_
          exact a_iret dOffice_answer_76 rfl ⟨congrArg (fun x => some (Value.int x)) ((by symm; (unfold ansW; (try rw [hh, f_of_z (by omega) (by omega)] at c62); (try rw [hl, f_of_z (by omega) (by omega)] at c82); repeat (first | rw [if_pos (by omega)] | rw [if_neg (by omega)])))), rfl, rfl, rfl⟩
        · refine a_aload_n 1 dOffice_answer_65 rfl rfl ?_
          refine a_geta (r := (o + 1)) dOffice_answer_66 fl4_9 rfl (of_l0 ho) (by omega) (hr 0 (by decide)) ?_
          refine a_iload_n 0 dOffice_answer_69 rfl rfl ?_
          refine a_ialdN (a := (w % 10)) dOffice_answer_70 (of_l1 ho) (by omega) (by rw [hh, f_of_z (by omega) (by omega)] at c62; omega) (by decide) ?_
          refine a_goto (tgt := 76) dOffice_answer_71 (by decide) ?_
          exact a_iret dOffice_answer_76 rfl ⟨congrArg (fun x => some (Value.int x)) ((by symm; (unfold ansW; (try rw [hh, f_of_z (by omega) (by omega)] at c62); (try rw [hl, f_of_z (by omega) (by omega)] at c82); repeat (first | rw [if_pos (by omega)] | rw [if_neg (by omega)])))), rfl, rfl, rfl⟩
    · refine a_aload_n 0 dOffice_answer_40 rfl rfl ?_
      refine a_iload_n 1 dOffice_answer_41 rfl rfl ?_
      refine a_callV (Q' := m_res (some (.int (szF (I o 0) (I o 1) (I o 2) (nI w)))) I J R) (as := [.int (nI w)]) (st := []) dOffice_answer_42 ml4_58 rfl (Nat.le_of_ble_eq_true rfl) (of_l0 ho) rfl rfl (by decide) (by omega) (Nat.le_of_ble_eq_true rfl) rfl (Nat.le_refl _) (Nat.le_refl _) (c_Office_sizeOf ho hr hon) (m_go ?_)
      show AW _ _ _ _ _ _ _ _ [.int (szF (I o 0) (I o 1) (I o 2) (nI w))] _ _ _ _
      exact a_iret dOffice_answer_45 rfl ⟨congrArg (fun x => some (Value.int x)) ((by symm; (unfold ansW; (try rw [hh, f_of_z (by omega) (by omega)] at c62); (try rw [hl, f_of_z (by omega) (by omega)] at c82); repeat (first | rw [if_pos (by omega)] | rw [if_neg (by omega)])))), rfl, rfl, rfl⟩
  · refine a_iload_n 1 dOffice_answer_6 rfl rfl ?_
    refine a_bipushN (a := 116) dOffice_answer_7 (by decide) ?_
    refine a_icmp_geN (tgt := 24) dOffice_answer_9 (by decide) (by omega) (by omega) (fun c9 => ?_) (fun c9 => ?_)
    · refine a_bipush (v := -2) dOffice_answer_24 (by decide) ?_
      exact a_iret dOffice_answer_26 rfl ⟨congrArg (fun x => some (Value.int x)) ((by symm; (unfold ansW; (try rw [hh, f_of_z (by omega) (by omega)] at c62); (try rw [hl, f_of_z (by omega) (by omega)] at c82); repeat (first | rw [if_pos (by omega)] | rw [if_neg (by omega)])))), rfl, rfl, rfl⟩
    · refine a_aload_n 0 dOffice_answer_12 rfl rfl ?_
      refine a_geta (r := (o + 8)) dOffice_answer_13 fl4_33 rfl (of_l0 ho) (by omega) (hr 7 (by decide)) ?_
      refine a_iload_n 1 dOffice_answer_16 rfl rfl ?_
      refine a_bipushN (a := 100) dOffice_answer_17 (by decide) ?_
      refine a_isubN dOffice_answer_19 (by omega) ?_
      refine a_ialdN (a := (w - 100)) dOffice_answer_20 (of_l8 ho) (by omega) (by omega) (by decide) ?_
      refine a_goto (tgt := 26) dOffice_answer_21 (by decide) ?_
      exact a_iret dOffice_answer_26 rfl ⟨congrArg (fun x => some (Value.int x)) ((by symm; (unfold ansW; (try rw [hh, f_of_z (by omega) (by omega)] at c62); (try rw [hl, f_of_z (by omega) (by omega)] at c82); repeat (first | rw [if_pos (by omega)] | rw [if_neg (by omega)])))), rfl, rfl, rfl⟩
theorem c_Office_answer0 {S : Nat × (Nat → Int32)} {d n : Nat} {I : mI} {J : mJ} {R : mR} {o : Nat} (ho : o ∈ m_offs) (hr : offR R o) (hon : o + 8 < n) {x : Int32} (hx : x < 0) : RUN S (d + 1) YOffice_answer [.ref o, .int x] I J R n (some (.int (-2))) I J R n := by
  show AW S _ YOffice_answer n n _ 0 [(0, .ref o), (1, .int x)] [] I J R n
  refine a_iload_n 1 dOffice_answer_0 rfl rfl ?_
  refine a_bipush (v := 100) dOffice_answer_1 (by decide) ?_
  refine a_icmp_lt (tgt := 27) dOffice_answer_3 (by decide) (fun _ => ?_) (fun c => False.elim (c (m_lt0 hx (by decide))))
  refine a_iload_n 1 dOffice_answer_27 rfl rfl ?_
  refine a_if_ge (tgt := 34) dOffice_answer_28 (by decide) (fun c => False.elim (Int32.not_le.mpr hx c)) (fun _ => ?_)
  refine a_bipush (v := -2) dOffice_answer_31 (by decide) ?_
  exact a_iret dOffice_answer_33 rfl ⟨rfl, rfl, rfl, rfl⟩
