def dsC (pl kd tm : Nat → Int32) (l : Nat) (x : Int32) : Int32 :=
  if x = -1 then pl l else if tm (4 * x + kd l).toNatClampNeg = -1 then pl l else tm (4 * x + kd l).toNatClampNeg * pl l
theorem dsC_n {pl kd tm : Nat → Int32} {l q a : Nat} (hkd : kd l = nI q) (h4 : q < 4) (ha : a < 4) : dsC pl kd tm l (nI a) = if tm (4 * a + q) = -1 then pl l else tm (4 * a + q) * pl l := by
  unfold dsC
  rw [if_neg (nI_nm1 (by omega))]
  have e : 4 * nI a + nI q = nI (4 * a + q) := by
    show nI 4 * nI a + nI q = _
    rw [pk_mul, nI_add]
  simp only [hkd, e, nI_clamp (show 4 * a + q < 2 ^ 31 by omega)]
abbrev dsO (I : mI) (o l : Nat) (x : Int32) : Int32 := dsC (I (o + 5)) (I (o + 3)) (I (o + 8)) l x
theorem c_Office_does0 {S : Nat × (Nat → Int32)} {d n : Nat} {I : mI} {J : mJ} {R : mR} {o : Nat} (ho : o ∈ m_offs) (hr : offR R o) (hon : o + 8 < n){l q : Nat} (hl : l < 10) (hkd : I (o + 3) l = nI q) (hq : q < 4)  : RUN S d YOffice_does [.ref o, .int (nI l), .int (-1)] I J R n (some (.int (dsO I o l (-1)))) I J R n := by
  show AW S _ YOffice_does n n _ 0 [(0, .ref o), (1, .int (nI l)), (2, .int (-1))] [] I J R n
  refine a_iload_n 2 dOffice_does_0 rfl rfl ?_
  refine a_iconst (v := -1) dOffice_does_1 (by decide) ?_
  refine a_icmp_ne (tgt := 9) dOffice_does_2 (by decide) (fun c => False.elim (c rfl)) (fun _ => ?_)
  refine a_iconst (v := -1) dOffice_does_5 (by decide) ?_
  refine a_goto (tgt := 24) dOffice_does_6 (by decide) ?_
  refine a_istore_n (lv' := [(3, .int (-1)), (0, .ref o), (1, .int (nI l)), (2, .int (-1))]) dOffice_does_24 rfl (by decide) rfl ?_
  refine a_iload_n 0 dOffice_does_25 rfl rfl ?_
  refine a_iconst (v := -1) dOffice_does_26 (by decide) ?_
  refine a_icmp_ne (tgt := 39) dOffice_does_27 (by decide) (fun c => False.elim (c rfl)) (fun _ => ?_)
  refine a_aload_n 1 dOffice_does_30 rfl rfl ?_
  refine a_geta (r := (o + 5)) dOffice_does_31 fl4_24 rfl (of_l0 ho) (by omega) (hr 4 (by decide)) ?_
  refine a_iload_n 2 dOffice_does_34 rfl rfl ?_
  refine a_ialdN (a := l) dOffice_does_35 (of_l5 ho) (by omega) (by omega) (by decide) ?_
  refine a_goto (tgt := 47) dOffice_does_36 (by decide) ?_
  exact a_iret dOffice_does_47 rfl ⟨by simp [dsO, dsC], rfl, rfl, rfl⟩
theorem c_Office_doesN {S : Nat × (Nat → Int32)} {d n : Nat} {I : mI} {J : mJ} {R : mR} {o : Nat} (ho : o ∈ m_offs) (hr : offR R o) (hon : o + 8 < n){l q : Nat} (hl : l < 10) (hkd : I (o + 3) l = nI q) (hq : q < 4) {a : Nat} (ha : a < 4)  : RUN S d YOffice_does [.ref o, .int (nI l), .int (nI a)] I J R n (some (.int (dsO I o l (nI a)))) I J R n := by
  show AW S _ YOffice_does n n _ 0 [(0, .ref o), (1, .int (nI l)), (2, .int (nI a))] [] I J R n
  refine a_iload_n 2 dOffice_does_0 rfl rfl ?_
  refine a_iconst (v := -1) dOffice_does_1 (by decide) ?_
  refine a_icmp_ne (tgt := 9) dOffice_does_2 (by decide) (fun _ => ?_) (fun c => False.elim (nI_nm1 (by omega) c))
  refine a_aload_n 0 dOffice_does_9 rfl rfl ?_
  refine a_geta (r := (o + 8)) dOffice_does_10 fl4_33 rfl (of_l0 ho) (by omega) (hr 7 (by decide)) ?_
  refine a_iconstN (a := 4) dOffice_does_13 (by decide) ?_
  refine a_iload_n 2 dOffice_does_14 rfl rfl ?_
  refine a_imulN (a := 4) (b := a) dOffice_does_15 ?_
  refine a_aload_n 0 dOffice_does_16 rfl rfl ?_
  refine a_geta (r := (o + 3)) dOffice_does_17 fl4_18 rfl (of_l0 ho) (by omega) (hr 2 (by decide)) ?_
  refine a_iload_n 1 dOffice_does_20 rfl rfl ?_
  refine a_ialdN (a := l) dOffice_does_21 (of_l3 ho) (by omega) (by omega) (by decide) ?_
  rw [show I (o + 3) l = (nI q) from hkd]
  refine a_iaddN (a := (4 * a)) (b := q) dOffice_does_22 ?_
  refine a_ialdN (a := ((4 * a) + q)) dOffice_does_23 (of_l8 ho) (by omega) (by omega) (by decide) ?_
  refine a_istore_n (lv' := [(3, .int (I (o + 8) ((4 * a) + q))), (0, .ref o), (1, .int (nI l)), (2, .int (nI a))]) dOffice_does_24 rfl (by decide) rfl ?_
  refine a_iload_n 0 dOffice_does_25 rfl rfl ?_
  refine a_iconst (v := -1) dOffice_does_26 (by decide) ?_
  refine a_icmp_ne (tgt := 39) dOffice_does_27 (by decide) (fun c27 => ?_) (fun c27 => ?_)
  · refine a_iload_n 0 dOffice_does_39 rfl rfl ?_
    refine a_aload_n 1 dOffice_does_40 rfl rfl ?_
    refine a_geta (r := (o + 5)) dOffice_does_41 fl4_24 rfl (of_l0 ho) (by omega) (hr 4 (by decide)) ?_
    refine a_iload_n 2 dOffice_does_44 rfl rfl ?_
    refine a_ialdN (a := l) dOffice_does_45 (of_l5 ho) (by omega) (by omega) (by decide) ?_
    refine a_imul dOffice_does_46 ?_
    exact a_iret dOffice_does_47 rfl ⟨by rw [dsO, dsC_n hkd hq ha]; simp [*], rfl, rfl, rfl⟩
  · refine a_aload_n 1 dOffice_does_30 rfl rfl ?_
    refine a_geta (r := (o + 5)) dOffice_does_31 fl4_24 rfl (of_l0 ho) (by omega) (hr 4 (by decide)) ?_
    refine a_iload_n 2 dOffice_does_34 rfl rfl ?_
    refine a_ialdN (a := l) dOffice_does_35 (of_l5 ho) (by omega) (by omega) (by decide) ?_
    refine a_goto (tgt := 47) dOffice_does_36 (by decide) ?_
    exact a_iret dOffice_does_47 rfl ⟨by rw [dsO, dsC_n hkd hq ha]; simp [*], rfl, rfl, rfl⟩
theorem c_Office_does {S : Nat × (Nat → Int32)} {d n : Nat} {I : mI} {J : mJ} {R : mR} {o : Nat} (ho : o ∈ m_offs) (hr : offR R o) (hon : o + 8 < n) {l q : Nat} {x : Int32} (hl : l < 10) (hkd : I (o + 3) l = nI q) (hq : q < 4) (hx : kOK x) : RUN S d YOffice_does [.ref o, .int (nI l), .int x] I J R n (some (.int (dsO I o l x))) I J R n := by
  rcases hx with rfl | ⟨a, ha, rfl⟩
  · exact c_Office_does0 ho hr hon hl hkd hq
  · exact c_Office_doesN ho hr hon hl hkd hq ha
theorem l_Office_lettersOf {S : Nat × (Nat → Int32)} {d n : Nat} {I : mI} {J : mJ} {R : mR} {o : Nat} (ho : o ∈ m_offs) (hr : offR R o) (hon : o + 8 < n){nl : Nat} (hl : I o 1 = nI nl) (hnl : nl ≤ 10) {h : Int32}  {Q : Option Value → mI → mJ → mR → Prop} (hQ : Q (some (.int (ltsN (I (o + 2)) h nl))) I J R) : ∀ m k, k + m = nl → AW S d YOffice_lettersOf n n Q 4 [(3, .int (nI k)), (2, .int (ltsN (I (o + 2)) h k)), (0, .ref o), (1, .int h)] [] I J R n := by
  intro m
  induction m with
  | zero =>
    intro k hk
    rw [show k = nl by omega]
    refine a_iload_n 0 dOffice_lettersOf_4 rfl rfl ?_
    refine a_aload_n 2 dOffice_lettersOf_5 rfl rfl ?_
    refine a_geti dOffice_lettersOf_6 fl4_40 rfl (of_l0 ho) (by omega) ?_
    rw [show I o 1 = (nI nl) from hl]
    refine a_icmp_geN (tgt := 34) dOffice_lettersOf_9 (by decide) (by omega) (by omega) (fun _ => ?_) (fun c => False.elim (by omega))
    refine a_iload_n 1 dOffice_lettersOf_34 rfl rfl ?_
    exact a_iret dOffice_lettersOf_35 rfl hQ
  | succ m ih =>
    intro k hk
    refine a_iload_n 0 dOffice_lettersOf_4 rfl rfl ?_
    refine a_aload_n 2 dOffice_lettersOf_5 rfl rfl ?_
    refine a_geti dOffice_lettersOf_6 fl4_40 rfl (of_l0 ho) (by omega) ?_
    rw [show I o 1 = (nI nl) from hl]
    refine a_icmp_geN (tgt := 34) dOffice_lettersOf_9 (by decide) (by omega) (by omega) (fun c => False.elim (by omega)) (fun _ => ?_)
    refine a_aload_n 2 dOffice_lettersOf_12 rfl rfl ?_
    refine a_geta (r := (o + 2)) dOffice_lettersOf_13 fl4_15 rfl (of_l0 ho) (by omega) (hr 1 (by decide)) ?_
    refine a_iload_n 0 dOffice_lettersOf_16 rfl rfl ?_
    refine a_ialdN (a := k) dOffice_lettersOf_17 (of_l2 ho) (by omega) (by omega) (by decide) ?_
    refine a_iload_n 3 dOffice_lettersOf_18 rfl rfl ?_
    refine a_icmp_ne (tgt := 28) dOffice_lettersOf_19 (by decide) (fun c19 => ?_) (fun c19 => ?_)
    · refine a_iincN (lv' := [(3, .int (nI (k + 1))), (2, .int (ltsN (I (o + 2)) h k)), (0, .ref o), (1, .int h)]) (j := 0) dOffice_lettersOf_28 rfl (by decide) rfl ?_
      refine a_goto (tgt := 4) dOffice_lettersOf_31 (by decide) ?_
      refine a_locs (lv' := [(3, .int (nI (k + 1))), (2, .int (ltsN (I (o + 2)) h k)), (0, .ref o), (1, .int h)]) [0, 1, 2, 3] rfl ?_
      have hh := ih (k + 1) (by omega)
      rw [show ltsN (I (o + 2)) h (k + 1) = (ltsN (I (o + 2)) h k) from by simp [ltsN, c19, nI_one]] at hh
      exact hh
    · refine a_iload_n 1 dOffice_lettersOf_22 rfl rfl ?_
      refine a_iconstN (a := 1) dOffice_lettersOf_23 (by decide) ?_
      refine a_iload_n 0 dOffice_lettersOf_24 rfl rfl ?_
      refine a_ishl dOffice_lettersOf_25 ?_
      refine a_ior dOffice_lettersOf_26 ?_
      refine a_istore_n (lv' := [(2, .int ((ltsN (I (o + 2)) h k) ||| ((nI 1) <<< ((nI k) &&& 31)))), (3, .int (nI k)), (0, .ref o), (1, .int h)]) dOffice_lettersOf_27 rfl (by decide) rfl ?_
      refine a_iincN (lv' := [(3, .int (nI (k + 1))), (2, .int ((ltsN (I (o + 2)) h k) ||| ((nI 1) <<< ((nI k) &&& 31)))), (0, .ref o), (1, .int h)]) (j := 1) dOffice_lettersOf_28 rfl (by decide) rfl ?_
      refine a_goto (tgt := 4) dOffice_lettersOf_31 (by decide) ?_
      refine a_locs (lv' := [(3, .int (nI (k + 1))), (2, .int ((ltsN (I (o + 2)) h k) ||| ((nI 1) <<< ((nI k) &&& 31)))), (0, .ref o), (1, .int h)]) [0, 1, 2, 3] rfl ?_
      have hh := ih (k + 1) (by omega)
      rw [show ltsN (I (o + 2)) h (k + 1) = ((ltsN (I (o + 2)) h k) ||| ((nI 1) <<< ((nI k) &&& 31))) from by simp [ltsN, c19, nI_one]] at hh
      exact hh
theorem c_Office_lettersOf {S : Nat × (Nat → Int32)} {d n : Nat} {I : mI} {J : mJ} {R : mR} {o : Nat} (ho : o ∈ m_offs) (hr : offR R o) (hon : o + 8 < n){nl : Nat} (hl : I o 1 = nI nl) (hnl : nl ≤ 10) {h : Int32}  : RUN S d YOffice_lettersOf [.ref o, .int h] I J R n (some (.int (ltsN (I (o + 2)) h nl))) I J R n := by
  show AW S _ YOffice_lettersOf n n _ 0 [(0, .ref o), (1, .int h)] [] I J R n
  refine a_iconstN (a := 0) dOffice_lettersOf_0 (by decide) ?_
  refine a_istore_n (lv' := [(2, .int (nI 0)), (0, .ref o), (1, .int h)]) dOffice_lettersOf_1 rfl (by decide) rfl ?_
  refine a_iconstN (a := 0) dOffice_lettersOf_2 (by decide) ?_
  refine a_istore_n (lv' := [(3, .int (nI 0)), (2, .int (nI 0)), (0, .ref o), (1, .int h)]) dOffice_lettersOf_3 rfl (by decide) rfl ?_
  refine a_locs (lv' := [(3, .int (nI 0)), (2, .int (nI 0)), (0, .ref o), (1, .int h)]) [0, 1, 2, 3] rfl ?_
  exact l_Office_lettersOf ho hr hon hl hnl ⟨rfl, rfl, rfl, rfl⟩ nl 0 (by omega)
/-- a house's mood, what came last, and the least mood, when of the first k letters those of a set have come by numbers -/
def bhN (ds : Nat → Int32 → Int32) (kd : Nat → Int32) (m0 : Int32) (s : Int32) : Nat → Int32 × Int32 × Int32
  | 0 => (m0, -1, m0)
  | k + 1 => if f_has s (nI k) = 0 then bhN ds kd m0 s k else
      ((bhN ds kd m0 s k).1 + ds k (bhN ds kd m0 s k).2.1, kd k, f_le (bhN ds kd m0 s k).2.2 ((bhN ds kd m0 s k).1 + ds k (bhN ds kd m0 s k).2.1))
/-- the kinds of the letters of an office of the class -/
def WFc (I : mI) (o nl : Nat) : Prop := ∀ l, l < nl → ∃ q, q < 4 ∧ I (o + 3) l = nI q
theorem bhN_ok {ds : Nat → Int32 → Int32} {kd : Nat → Int32} {m0 s : Int32} : ∀ (k : Nat), (∀ l, l < k → kOK (kd l)) → kOK (bhN ds kd m0 s k).2.1 := by
  intro k
  induction k with
  | zero => intro _; exact Or.inl rfl
  | succ k ih =>
    intro h
    unfold bhN
    split
    · exact ih (fun l hl => h l (by omega))
    · exact h k (by omega)
theorem WFc.kok {I : mI} {o nl l : Nat} (h : WFc I o nl) (hl : l < nl) : kOK (I (o + 3) l) := by
  obtain ⟨q, hq, e⟩ := h l hl
  exact Or.inr ⟨q, hq, e⟩
abbrev bhO (I : mI) (o : Nat) (h : Nat) (s : Int32) (k : Nat) : Int32 × Int32 × Int32 := bhN (dsO I o) (I (o + 3)) (I (o + 1) h) s k
theorem has_1 {s k : Int32} (h : ((s >>> (k &&& 31)) &&& 1) = 1) : ¬ f_has s k = 0 := by unfold f_has; rw [if_pos h]; decide
theorem has_0 {s k : Int32} (h : ¬ ((s >>> (k &&& 31)) &&& 1) = 1) : f_has s k = 0 := by unfold f_has; rw [if_neg h]
theorem l_Office_moodBehind {S : Nat × (Nat → Int32)} {d n : Nat} {I : mI} {J : mJ} {R : mR} {o : Nat} (ho : o ∈ m_offs) (hr : offR R o) (hon : o + 8 < n){nl : Nat} (hl : I o 1 = nI nl) (hnl : nl ≤ 10) {h : Nat} (hh : h < 6) {s : Int32} (hW : WFc I o nl)  {Q : Option Value → mI → mJ → mR → Prop} (hQ : Q (some (.int (bhO I o h s nl).1)) I J R) : ∀ m k, k + m = nl → AW S (d + 1) YOffice_moodBehind n n Q 13 [(5, .int (nI k)), (4, .int (bhO I o h s k).2.1), (3, .int (bhO I o h s k).1), (0, .ref o), (1, .int (nI h)), (2, .int s)] [] I J R n := by
  intro m
  induction m with
  | zero =>
    intro k hk
    rw [show k = nl by omega]
    refine a_iload 0 dOffice_moodBehind_13 rfl ?_
    refine a_aload_n 3 dOffice_moodBehind_15 rfl rfl ?_
    refine a_geti dOffice_moodBehind_16 fl4_40 rfl (of_l0 ho) (by omega) ?_
    rw [show I o 1 = (nI nl) from hl]
    refine a_icmp_geN (tgt := 58) dOffice_moodBehind_19 (by decide) (by omega) (by omega) (fun _ => ?_) (fun c => False.elim (by omega))
    refine a_iload_n 2 dOffice_moodBehind_58 rfl rfl ?_
    exact a_iret dOffice_moodBehind_59 rfl hQ
  | succ m ih =>
    intro k hk
    refine a_iload 0 dOffice_moodBehind_13 rfl ?_
    refine a_aload_n 3 dOffice_moodBehind_15 rfl rfl ?_
    refine a_geti dOffice_moodBehind_16 fl4_40 rfl (of_l0 ho) (by omega) ?_
    rw [show I o 1 = (nI nl) from hl]
    refine a_icmp_geN (tgt := 58) dOffice_moodBehind_19 (by decide) (by omega) (by omega) (fun c => False.elim (by omega)) (fun _ => ?_)
    refine a_iload_n 5 dOffice_moodBehind_22 rfl rfl ?_
    refine a_iload 0 dOffice_moodBehind_23 rfl ?_
    refine a_ishr dOffice_moodBehind_25 ?_
    refine a_iconstN (a := 1) dOffice_moodBehind_26 (by decide) ?_
    refine a_iand dOffice_moodBehind_27 ?_
    refine a_iconstN (a := 1) dOffice_moodBehind_28 (by decide) ?_
    refine a_icmp_ne (tgt := 52) dOffice_moodBehind_29 (by decide) (fun c29 => ?_) (fun c29 => ?_)
    · refine a_iincN (lv' := [(5, .int (nI (k + 1))), (4, .int (bhO I o h s k).2.1), (3, .int (bhO I o h s k).1), (0, .ref o), (1, .int (nI h)), (2, .int s)]) (j := 0) dOffice_moodBehind_52 rfl (by decide) rfl ?_
      refine a_goto (tgt := 13) dOffice_moodBehind_55 (by decide) ?_
      refine a_locs (lv' := [(5, .int (nI (k + 1))), (4, .int (bhO I o h s k).2.1), (3, .int (bhO I o h s k).1), (0, .ref o), (1, .int (nI h)), (2, .int s)]) [0, 1, 2, 3, 4, 5] rfl ?_
      have hh := ih (k + 1) (by omega)
      rw [show bhO I o h s (k + 1) = bhO I o h s k from (by unfold bhO; rw [bhN, if_pos (has_0 c29)])] at hh
      exact hh
    · refine a_iload_n 2 dOffice_moodBehind_32 rfl rfl ?_
      refine a_aload_n 3 dOffice_moodBehind_33 rfl rfl ?_
      refine a_iload 0 dOffice_moodBehind_34 rfl ?_
      refine a_iload 1 dOffice_moodBehind_36 rfl ?_
      refine a_callV (Q' := m_res (some (.int (dsO I o k (bhO I o h s k).2.1))) I J R) (as := [.int (nI k), .int (bhO I o h s k).2.1]) (st := [.int (bhO I o h s k).1]) dOffice_moodBehind_38 ml4_76 rfl (Nat.le_of_ble_eq_true rfl) (of_l0 ho) rfl rfl (by decide) (by omega) (Nat.le_of_ble_eq_true rfl) rfl (Nat.le_refl _) (Nat.le_refl _) (by obtain ⟨q, hq, e⟩ := hW k (by omega); exact c_Office_does ho hr hon (by omega) e hq (bhN_ok k (fun l hl => hW.kok (by omega)))) (m_go ?_)
      show AW _ _ _ _ _ _ _ _ [.int (dsO I o k (bhO I o h s k).2.1), .int (bhO I o h s k).1] _ _ _ _
      refine a_iadd dOffice_moodBehind_41 ?_
      refine a_istore_n (lv' := [(3, .int ((bhO I o h s k).1 + (dsO I o k (bhO I o h s k).2.1))), (5, .int (nI k)), (4, .int (bhO I o h s k).2.1), (0, .ref o), (1, .int (nI h)), (2, .int s)]) dOffice_moodBehind_42 rfl (by decide) rfl ?_
      refine a_aload_n 3 dOffice_moodBehind_43 rfl rfl ?_
      refine a_geta (r := (o + 3)) dOffice_moodBehind_44 fl4_18 rfl (of_l0 ho) (by omega) (hr 2 (by decide)) ?_
      refine a_iload 1 dOffice_moodBehind_47 rfl ?_
      refine a_ialdN (a := k) dOffice_moodBehind_49 (of_l3 ho) (by omega) (by omega) (by decide) ?_
      refine a_istore (lv' := [(4, .int (I (o + 3) k)), (3, .int ((bhO I o h s k).1 + (dsO I o k (bhO I o h s k).2.1))), (5, .int (nI k)), (0, .ref o), (1, .int (nI h)), (2, .int s)]) dOffice_moodBehind_50 (by decide) rfl ?_
      refine a_iincN (lv' := [(5, .int (nI (k + 1))), (4, .int (I (o + 3) k)), (3, .int ((bhO I o h s k).1 + (dsO I o k (bhO I o h s k).2.1))), (0, .ref o), (1, .int (nI h)), (2, .int s)]) (j := 2) dOffice_moodBehind_52 rfl (by decide) rfl ?_
      refine a_goto (tgt := 13) dOffice_moodBehind_55 (by decide) ?_
      refine a_locs (lv' := [(5, .int (nI (k + 1))), (4, .int (I (o + 3) k)), (3, .int ((bhO I o h s k).1 + (dsO I o k (bhO I o h s k).2.1))), (0, .ref o), (1, .int (nI h)), (2, .int s)]) [0, 1, 2, 3, 4, 5] rfl ?_
      have hh := ih (k + 1) (by omega)
      have e9 : f_has s (nI k) ≠ 0 := has_1 c29
      rw [show bhO I o h s (k + 1) = _ from (by unfold bhO; rw [bhN, if_neg e9])] at hh
      exact hh
theorem c_Office_moodBehind {S : Nat × (Nat → Int32)} {d n : Nat} {I : mI} {J : mJ} {R : mR} {o : Nat} (ho : o ∈ m_offs) (hr : offR R o) (hon : o + 8 < n){nl : Nat} (hl : I o 1 = nI nl) (hnl : nl ≤ 10) {h : Nat} (hh : h < 6) {s : Int32} (hW : WFc I o nl)  : RUN S (d + 1) YOffice_moodBehind [.ref o, .int (nI h), .int s] I J R n (some (.int (bhO I o h s nl).1)) I J R n := by
  show AW S _ YOffice_moodBehind n n _ 0 [(0, .ref o), (1, .int (nI h)), (2, .int s)] [] I J R n
  refine a_aload_n 0 dOffice_moodBehind_0 rfl rfl ?_
  refine a_geta (r := (o + 1)) dOffice_moodBehind_1 fl4_9 rfl (of_l0 ho) (by omega) (hr 0 (by decide)) ?_
  refine a_iload_n 1 dOffice_moodBehind_4 rfl rfl ?_
  refine a_ialdN (a := h) dOffice_moodBehind_5 (of_l1 ho) (by omega) (by omega) (by decide) ?_
  refine a_istore_n (lv' := [(3, .int (I (o + 1) h)), (0, .ref o), (1, .int (nI h)), (2, .int s)]) dOffice_moodBehind_6 rfl (by decide) rfl ?_
  refine a_iconst (v := -1) dOffice_moodBehind_7 (by decide) ?_
  refine a_istore (lv' := [(4, .int (-1)), (3, .int (I (o + 1) h)), (0, .ref o), (1, .int (nI h)), (2, .int s)]) dOffice_moodBehind_8 (by decide) rfl ?_
  refine a_iconstN (a := 0) dOffice_moodBehind_10 (by decide) ?_
  refine a_istore (lv' := [(5, .int (nI 0)), (4, .int (-1)), (3, .int (I (o + 1) h)), (0, .ref o), (1, .int (nI h)), (2, .int s)]) dOffice_moodBehind_11 (by decide) rfl ?_
  refine a_locs (lv' := [(5, .int (nI 0)), (4, .int (-1)), (3, .int (I (o + 1) h)), (0, .ref o), (1, .int (nI h)), (2, .int s)]) [0, 1, 2, 3, 4, 5] rfl ?_
  exact l_Office_moodBehind ho hr hon hl hnl hh hW ⟨rfl, rfl, rfl, rfl⟩ nl 0 (by omega)
/-- the lesser of two, asked either way -/
theorem m_minsym {a b : Int32} : (if a < b then a else b) = (if b < a then b else a) := by
  by_cases h : a < b
  · rw [if_pos h, if_neg (Int32.not_lt.mpr (Int32.le_of_lt h))]
  · by_cases h2 : b < a
    · rw [if_neg h, if_pos h2]
    · rw [if_neg h, if_neg h2]; exact Int32.le_antisymm (Int32.not_lt.mp h) (Int32.not_lt.mp h2)
theorem l_Office_lowestUntil {S : Nat × (Nat → Int32)} {d n : Nat} {I : mI} {J : mJ} {R : mR} {o : Nat} (ho : o ∈ m_offs) (hr : offR R o) (hon : o + 8 < n){nl : Nat} (hl : I o 1 = nI nl) (hnl : nl ≤ 10) {h : Nat} (hh : h < 6) {s : Int32} (hW : WFc I o nl)  {Q : Option Value → mI → mJ → mR → Prop} (hQ : Q (some (.int (bhO I o h s nl).2.2)) I J R) : ∀ m k, k + m = nl → AW S (d + 1) YOffice_lowestUntil n n Q 16 [(6, .int (nI k)), (5, .int (bhO I o h s k).2.1), (4, .int (bhO I o h s k).2.2), (3, .int (bhO I o h s k).1), (0, .ref o), (1, .int (nI h)), (2, .int s)] [] I J R n := by
  intro m
  induction m with
  | zero =>
    intro k hk
    rw [show k = nl by omega]
    refine a_iload 0 dOffice_lowestUntil_16 rfl ?_
    refine a_aload_n 4 dOffice_lowestUntil_18 rfl rfl ?_
    refine a_geti dOffice_lowestUntil_19 fl4_40 rfl (of_l0 ho) (by omega) ?_
    rw [show I o 1 = (nI nl) from hl]
    refine a_icmp_geN (tgt := 69) dOffice_lowestUntil_22 (by decide) (by omega) (by omega) (fun _ => ?_) (fun c => False.elim (by omega))
    refine a_iload 2 dOffice_lowestUntil_69 rfl ?_
    exact a_iret dOffice_lowestUntil_71 rfl hQ
  | succ m ih =>
    intro k hk
    refine a_iload 0 dOffice_lowestUntil_16 rfl ?_
    refine a_aload_n 4 dOffice_lowestUntil_18 rfl rfl ?_
    refine a_geti dOffice_lowestUntil_19 fl4_40 rfl (of_l0 ho) (by omega) ?_
    rw [show I o 1 = (nI nl) from hl]
    refine a_icmp_geN (tgt := 69) dOffice_lowestUntil_22 (by decide) (by omega) (by omega) (fun c => False.elim (by omega)) (fun _ => ?_)
    refine a_iload_n 6 dOffice_lowestUntil_25 rfl rfl ?_
    refine a_iload 0 dOffice_lowestUntil_26 rfl ?_
    refine a_ishr dOffice_lowestUntil_28 ?_
    refine a_iconstN (a := 1) dOffice_lowestUntil_29 (by decide) ?_
    refine a_iand dOffice_lowestUntil_30 ?_
    refine a_iconstN (a := 1) dOffice_lowestUntil_31 (by decide) ?_
    refine a_icmp_ne (tgt := 63) dOffice_lowestUntil_32 (by decide) (fun c32 => ?_) (fun c32 => ?_)
    · refine a_iincN (lv' := [(6, .int (nI (k + 1))), (5, .int (bhO I o h s k).2.1), (4, .int (bhO I o h s k).2.2), (3, .int (bhO I o h s k).1), (0, .ref o), (1, .int (nI h)), (2, .int s)]) (j := 0) dOffice_lowestUntil_63 rfl (by decide) rfl ?_
      refine a_goto (tgt := 16) dOffice_lowestUntil_66 (by decide) ?_
      refine a_locs (lv' := [(6, .int (nI (k + 1))), (5, .int (bhO I o h s k).2.1), (4, .int (bhO I o h s k).2.2), (3, .int (bhO I o h s k).1), (0, .ref o), (1, .int (nI h)), (2, .int s)]) [0, 1, 2, 3, 4, 5, 6] rfl ?_
      have hh := ih (k + 1) (by omega)
      rw [show bhO I o h s (k + 1) = bhO I o h s k from (by unfold bhO; rw [bhN, if_pos (has_0 c32)])] at hh
      exact hh
    · refine a_iload_n 3 dOffice_lowestUntil_35 rfl rfl ?_
      refine a_aload_n 4 dOffice_lowestUntil_36 rfl rfl ?_
      refine a_iload 0 dOffice_lowestUntil_37 rfl ?_
      refine a_iload 1 dOffice_lowestUntil_39 rfl ?_
      refine a_callV (Q' := m_res (some (.int (dsO I o k (bhO I o h s k).2.1))) I J R) (as := [.int (nI k), .int (bhO I o h s k).2.1]) (st := [.int (bhO I o h s k).1]) dOffice_lowestUntil_41 ml4_76 rfl (Nat.le_of_ble_eq_true rfl) (of_l0 ho) rfl rfl (by decide) (by omega) (Nat.le_of_ble_eq_true rfl) rfl (Nat.le_refl _) (Nat.le_refl _) (by obtain ⟨q, hq, e⟩ := hW k (by omega); exact c_Office_does ho hr hon (by omega) e hq (bhN_ok k (fun l hl => hW.kok (by omega)))) (m_go ?_)
      show AW _ _ _ _ _ _ _ _ [.int (dsO I o k (bhO I o h s k).2.1), .int (bhO I o h s k).1] _ _ _ _
      refine a_iadd dOffice_lowestUntil_44 ?_
      refine a_istore_n (lv' := [(3, .int ((bhO I o h s k).1 + (dsO I o k (bhO I o h s k).2.1))), (6, .int (nI k)), (5, .int (bhO I o h s k).2.1), (4, .int (bhO I o h s k).2.2), (0, .ref o), (1, .int (nI h)), (2, .int s)]) dOffice_lowestUntil_45 rfl (by decide) rfl ?_
      refine a_aload_n 4 dOffice_lowestUntil_46 rfl rfl ?_
      refine a_geta (r := (o + 3)) dOffice_lowestUntil_47 fl4_18 rfl (of_l0 ho) (by omega) (hr 2 (by decide)) ?_
      refine a_iload 1 dOffice_lowestUntil_50 rfl ?_
      refine a_ialdN (a := k) dOffice_lowestUntil_52 (of_l3 ho) (by omega) (by omega) (by decide) ?_
      refine a_istore (lv' := [(5, .int (I (o + 3) k)), (3, .int ((bhO I o h s k).1 + (dsO I o k (bhO I o h s k).2.1))), (6, .int (nI k)), (4, .int (bhO I o h s k).2.2), (0, .ref o), (1, .int (nI h)), (2, .int s)]) dOffice_lowestUntil_53 (by decide) rfl ?_
      refine a_iload 3 dOffice_lowestUntil_55 rfl ?_
      refine a_iload_n 1 dOffice_lowestUntil_57 rfl rfl ?_
      refine a_min dOffice_lowestUntil_58 mm4_79 (Nat.le_of_ble_eq_true rfl) (Nat.le_refl _) ?_
      refine a_istore (lv' := [(4, .int (if ((bhO I o h s k).1 + (dsO I o k (bhO I o h s k).2.1)) < (bhO I o h s k).2.2 then ((bhO I o h s k).1 + (dsO I o k (bhO I o h s k).2.1)) else (bhO I o h s k).2.2)), (5, .int (I (o + 3) k)), (3, .int ((bhO I o h s k).1 + (dsO I o k (bhO I o h s k).2.1))), (6, .int (nI k)), (0, .ref o), (1, .int (nI h)), (2, .int s)]) dOffice_lowestUntil_61 (by decide) rfl ?_
      refine a_iincN (lv' := [(6, .int (nI (k + 1))), (4, .int (if ((bhO I o h s k).1 + (dsO I o k (bhO I o h s k).2.1)) < (bhO I o h s k).2.2 then ((bhO I o h s k).1 + (dsO I o k (bhO I o h s k).2.1)) else (bhO I o h s k).2.2)), (5, .int (I (o + 3) k)), (3, .int ((bhO I o h s k).1 + (dsO I o k (bhO I o h s k).2.1))), (0, .ref o), (1, .int (nI h)), (2, .int s)]) (j := 3) dOffice_lowestUntil_63 rfl (by decide) rfl ?_
      refine a_goto (tgt := 16) dOffice_lowestUntil_66 (by decide) ?_
      refine a_locs (lv' := [(6, .int (nI (k + 1))), (5, .int (I (o + 3) k)), (4, .int (if ((bhO I o h s k).1 + (dsO I o k (bhO I o h s k).2.1)) < (bhO I o h s k).2.2 then ((bhO I o h s k).1 + (dsO I o k (bhO I o h s k).2.1)) else (bhO I o h s k).2.2)), (3, .int ((bhO I o h s k).1 + (dsO I o k (bhO I o h s k).2.1))), (0, .ref o), (1, .int (nI h)), (2, .int s)]) [0, 2, 1, 3, 4, 5, 6] rfl ?_
      have hh := ih (k + 1) (by omega)
      have e9 : f_has s (nI k) ≠ 0 := has_1 c32
      rw [show bhO I o h s (k + 1) = _ from (by unfold bhO; rw [bhN, if_neg e9])] at hh
      dsimp only [f_le] at hh
      rw [m_minsym] at hh
      exact hh
theorem c_Office_lowestUntil {S : Nat × (Nat → Int32)} {d n : Nat} {I : mI} {J : mJ} {R : mR} {o : Nat} (ho : o ∈ m_offs) (hr : offR R o) (hon : o + 8 < n){nl : Nat} (hl : I o 1 = nI nl) (hnl : nl ≤ 10) {h : Nat} (hh : h < 6) {s : Int32} (hW : WFc I o nl)  : RUN S (d + 1) YOffice_lowestUntil [.ref o, .int (nI h), .int s] I J R n (some (.int (bhO I o h s nl).2.2)) I J R n := by
  show AW S _ YOffice_lowestUntil n n _ 0 [(0, .ref o), (1, .int (nI h)), (2, .int s)] [] I J R n
  refine a_aload_n 0 dOffice_lowestUntil_0 rfl rfl ?_
  refine a_geta (r := (o + 1)) dOffice_lowestUntil_1 fl4_9 rfl (of_l0 ho) (by omega) (hr 0 (by decide)) ?_
  refine a_iload_n 1 dOffice_lowestUntil_4 rfl rfl ?_
  refine a_ialdN (a := h) dOffice_lowestUntil_5 (of_l1 ho) (by omega) (by omega) (by decide) ?_
  refine a_istore_n (lv' := [(3, .int (I (o + 1) h)), (0, .ref o), (1, .int (nI h)), (2, .int s)]) dOffice_lowestUntil_6 rfl (by decide) rfl ?_
  refine a_iload_n 0 dOffice_lowestUntil_7 rfl rfl ?_
  refine a_istore (lv' := [(4, .int (I (o + 1) h)), (3, .int (I (o + 1) h)), (0, .ref o), (1, .int (nI h)), (2, .int s)]) dOffice_lowestUntil_8 (by decide) rfl ?_
  refine a_iconst (v := -1) dOffice_lowestUntil_10 (by decide) ?_
  refine a_istore (lv' := [(5, .int (-1)), (4, .int (I (o + 1) h)), (3, .int (I (o + 1) h)), (0, .ref o), (1, .int (nI h)), (2, .int s)]) dOffice_lowestUntil_11 (by decide) rfl ?_
  refine a_iconstN (a := 0) dOffice_lowestUntil_13 (by decide) ?_
  refine a_istore (lv' := [(6, .int (nI 0)), (5, .int (-1)), (4, .int (I (o + 1) h)), (3, .int (I (o + 1) h)), (0, .ref o), (1, .int (nI h)), (2, .int s)]) dOffice_lowestUntil_14 (by decide) rfl ?_
  refine a_locs (lv' := [(6, .int (nI 0)), (5, .int (-1)), (4, .int (I (o + 1) h)), (3, .int (I (o + 1) h)), (0, .ref o), (1, .int (nI h)), (2, .int s)]) [0, 1, 2, 3, 4, 5, 6] rfl ?_
  exact l_Office_lowestUntil ho hr hon hl hnl hh hW ⟨rfl, rfl, rfl, rfl⟩ nl 0 (by omega)
