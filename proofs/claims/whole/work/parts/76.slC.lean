theorem cf88_self {X : Nat → Int32} : cf88 X (X 3) (X 2) (X 4) (X 5) (X 11) (X 12) (X 9) (X 10) = X := by
  funext k
  unfold cf88
  repeat' split
  all_goals (first | rfl | (subst_vars; rfl))
abbrev g88 (I : mI) (X md ls cm : Nat → Int32) : mI := m_row (m_row (m_row (m_row I 88 X) 89 md) 90 ls) 91 cm
theorem cr88_g {I : mI} {X md ls cm : Nat → Int32} {a b c e f g h i : Int32} : cr88 (m_row I 88 X) md ls cm a b c e f g h i = g88 I (cf88 X a b c e f g h i) md ls cm := by
  unfold cr88 g88
  rw [m_row_row, m_row_eq]
theorem cr88_s {I : mI} {X md ls cm : Nat → Int32} : cr88 (m_row I 88 X) md ls cm (X 3) (X 2) (X 4) (X 5) (X 11) (X 12) (X 9) (X 10) = g88 I X md ls cm := by rw [cr88_g, cf88_self]
/-- the course's fields when a letter comes -/
def brX (ds : Nat → Int32 → Int32) (bs : Nat → Int32) (l : Nat) (x : Int32) (X : Nat → Int32) : Nat → Int32 := cf88 X (X 3) (X 2 &&& (1 <<< (nI l &&& 31) ^^^ -1)) (X 4) (X 5 + ds l x) (if ds l x = bs l then X 11 else X 11 ||| (nI 1 <<< (nI l &&& 31))) (if ds l x = 0 then X 12 + 1 else X 12) (X 9) (X 10)
theorem c_br8 {S : Nat × (Nat → Int32)} {d n : Nat} {I : mI} {J : mJ} {R : mR} {X md ls cm : Nat → Int32} (hn : 122 ≤ n) (hR : m_fin R) {o nh nl : Nat} (ho : o ∈ m_offs) (hr : offR R o) (hon : o + 8 < n) (hh : I o 0 = nI nh) (hnh : nh ≤ 6) (hl : I o 1 = nI nl) (hnl : nl ≤ 10) (hRo : R 88 0 = some o) {l h : Nat} (hl10 : l < nl) (hh6 : h < 6) (hW : WFc I o nl) (hx : kOK (ls h)) : RUN S (d + 1) YCourse_bring [.ref 88, .int (nI l), .int (nI h)] (g88 I X md ls cm) J R n none (g88 I (brX (dsO I o) (I (o + 5)) l (ls h) X) (va_up md h (md h + dsO I o l (ls h))) (va_up ls h (I (o + 3) l)) (va_up cm h (cm h + 1))) J R n := by
  have h := c_bring88 (S := S) (d := d) (I := m_row I 88 X) (J := J) (R := R) (md := md) (ls := ls) (cm := cm) (ni := X 3) (le := X 2) (sl := X 4) (dn := X 5) (fa := X 11) (id0 := X 12) (gr := X 9) (lo := X 10) hn hR ho hr hon hRo (by rw [off_row0 ho (by decide)]; exact hh) hnh (by rw [off_row0 ho (by decide)]; exact hl) hnl hl10 hh6 (WFc_row ho (by decide) hW) hx
  rw [dsO_row ho (by decide), off_row ho (by decide) (by decide), off_row ho (by decide) (by decide), cr88_s, cr88_g] at h
  exact h
/-- the course's fields as it begins -/
def bgX (I : mI) (o nh nl : Nat) (md X : Nat → Int32) : Nat → Int32 := cf88 X 0 ((1 <<< (nI nl &&& 31)) - 1) 0 0 0 0 (opP I md o nh).2 (opP I md o nh).1
theorem c_bg8 {S : Nat × (Nat → Int32)} {d n : Nat} {I : mI} {J : mJ} {R : mR} {X md ls cm : Nat → Int32} (hn : 122 ≤ n) (hR : m_fin R) {o nh nl : Nat} (ho : o ∈ m_offs) (hr : offR R o) (hon : o + 8 < n) (hh : I o 0 = nI nh) (hnh : nh ≤ 6) (hl : I o 1 = nI nl) (hnl : nl ≤ 10) : RUN S (d + 1) YCourse_begin [.ref 88, .ref o] (g88 I X md ls cm) J R n none (g88 I (bgX I o nh nl md X) (va_cpy (I (o + 1)) md 0 0 6) (m_fill (fun _ => -1) ls 6) (m_fill (fun _ => 0) cm 6)) J (m_up R 88 0 (some o)) n := by
  have h := c_begin88 (S := S) (d := d) (I := m_row I 88 X) (J := J) (R := R) (md := md) (ls := ls) (cm := cm) (ni := X 3) (le := X 2) (sl := X 4) (dn := X 5) (fa := X 11) (id0 := X 12) (gr := X 9) (lo := X 10) hn hR ho hr hon (by rw [off_row0 ho (by decide)]; exact hh) hnh (by rw [off_row0 ho (by decide)]; exact hl) hnl
  unfold opC opP at h
  rw [off_row ho (by decide) (by decide), cr88_s, cr88_g] at h
  exact h
/-- moods when all letters have come, one of them by a slip -/
def moS (I : mI) (o nl sp h : Nat) : Int32 := (acN (dsO I o) (I (o + 3)) (hvS sp (I (o + 2))) (I (o + 1), fun _ => -1, fun _ => 0) nl).1 h
theorem acN_c6 {ds : Nat → Int32 → Int32} {kd : Nat → Int32} {hv : Nat → Nat} {s s' : g3} (h0 : ∀ j, j < 6 → s.1 j = s'.1 j ∧ s.2.1 j = s'.2.1 j) : ∀ k, (∀ l, l < k → hv l < 6) → ∀ j, j < 6 → (acN ds kd hv s k).1 j = (acN ds kd hv s' k).1 j ∧ (acN ds kd hv s k).2.1 j = (acN ds kd hv s' k).2.1 j := by
  intro k
  induction k with
  | zero => intro _ j hj; exact h0 j hj
  | succ k ih =>
    intro hv6 j hj
    have ih2 := ih (fun l hl => hv6 l (by omega))
    have hk := ih2 (hv k) (hv6 k (by omega))
    show va_up (acN ds kd hv s k).1 (hv k) _ j = va_up (acN ds kd hv s' k).1 (hv k) _ j ∧ va_up (acN ds kd hv s k).2.1 (hv k) (kd k) j = va_up (acN ds kd hv s' k).2.1 (hv k) (kd k) j
    unfold va_up
    by_cases e : j = hv k
    · rw [if_pos e, if_pos e, if_pos e, if_pos e, hk.1, hk.2]; exact ⟨rfl, rfl⟩
    · rw [if_neg e, if_neg e, if_neg e, if_neg e]; exact ih2 j hj
def trNS (I : mI) (o sp : Nat) (k : Nat) (s : (Nat → Int32) × (Nat → Int32) × (Nat → Int32) × (Nat → Int32)) : (Nat → Int32) × (Nat → Int32) × (Nat → Int32) × (Nat → Int32) := ((brX (dsO I o) (I (o + 5)) k (s.2.2.1 (hvS sp (I (o + 2)) k)) s.1), (va_up s.2.1 (hvS sp (I (o + 2)) k) (s.2.1 (hvS sp (I (o + 2)) k) + dsO I o k (s.2.2.1 (hvS sp (I (o + 2)) k)))), (va_up s.2.2.1 (hvS sp (I (o + 2)) k) (I (o + 3) k)), (va_up s.2.2.2 (hvS sp (I (o + 2)) k) (s.2.2.2 (hvS sp (I (o + 2)) k) + 1)))
def trN (I : mI) (o sp : Nat) (s0 : (Nat → Int32) × (Nat → Int32) × (Nat → Int32) × (Nat → Int32)) : Nat → (Nat → Int32) × (Nat → Int32) × (Nat → Int32) × (Nat → Int32)
  | 0 => s0
  | k + 1 => trNS I o sp k (trN I o sp s0 k)
theorem l_trN {S : Nat × (Nat → Int32)} {d n : Nat} {I : mI} {J : mJ} {R : mR} (hn : 122 ≤ n) (hR : m_fin R) {o nh nl : Nat} (ho : o ∈ m_offs) (hr : offR R o) (hon : o + 8 < n) (hh : I o 0 = nI nh) (hnh : nh ≤ 6) (hl : I o 1 = nI nl) (hnl : nl ≤ 10) (hRo : R 88 0 = some o) (hW : WFc I o nl) (hH : WFh (I (o + 2)) nl) {sp : Nat} (hs : sp < 60 ∨ sp = 99) {g : Nat}  {s0 : (Nat → Int32) × (Nat → Int32) × (Nat → Int32) × (Nat → Int32)} {Q : Option Value → mI → mJ → mR → Prop} (hI : ∀ k, k ≤ nl → ∀ h, h < 6 → kOK ((trN I o sp s0 k).2.2.1 h)) (hx : AW S (d + 2) YSlips_tryOut n n Q 76 [(4, .int (nI nl)), (0, .ref 85), (1, .ref o), (2, .ref g), (3, .int (nI sp))] [] (m_row (m_row (m_row (m_row I 88 ((trN I o sp s0 nl).1)) 89 ((trN I o sp s0 nl).2.1)) 90 ((trN I o sp s0 nl).2.2.1)) 91 ((trN I o sp s0 nl).2.2.2)) J R n) : ∀ m k, k + m = nl → ∀ s : (Nat → Int32) × (Nat → Int32) × (Nat → Int32) × (Nat → Int32), trN I o sp s0 k = s → AW S (d + 2) YSlips_tryOut n n Q 11 [(4, .int (nI k)), (0, .ref 85), (1, .ref o), (2, .ref g), (3, .int (nI sp))] [] (m_row (m_row (m_row (m_row I 88 s.1) 89 s.2.1) 90 s.2.2.1) 91 s.2.2.2) J R n := by
  intro m
  induction m with
  | zero =>
    intro k hk9 s es
    rw [show k = nl by omega] at es ⊢
    subst es
    refine a_iload 0 dSlips_tryOut_11 rfl ?_
    refine a_aload_n 2 dSlips_tryOut_13 rfl rfl ?_
    refine a_geti dSlips_tryOut_14 fl8_35 rfl (of_l0 ho) (by omega) ?_
    rw [show (m_row (m_row (m_row (m_row I 88 ((trN I o sp s0 nl).1)) 89 ((trN I o sp s0 nl).2.1)) 90 ((trN I o sp s0 nl).2.2.1)) 91 ((trN I o sp s0 nl).2.2.2)) o 1 = (nI nl) from ((show (m_row (m_row (m_row (m_row I 88 ((trN I o sp s0 nl).1)) 89 ((trN I o sp s0 nl).2.1)) 90 ((trN I o sp s0 nl).2.2.1)) 91 ((trN I o sp s0 nl).2.2.2)) o 1 = I o 1 by rw [m_row_ne (oc_ne0 ho (by decide)), m_row_ne (oc_ne0 ho (by decide)), m_row_ne (oc_ne0 ho (by decide)), m_row_ne (oc_ne0 ho (by decide))]).trans hl)]
    refine a_icmp_geN (tgt := 76) dSlips_tryOut_17 (by decide) (by omega) (by omega) (fun _ => ?_) (fun c => False.elim (by omega))
    exact hx
  | succ m ih =>
    intro k hk9 s es
    have hq := hI k (by omega) (hvS sp (I (o + 2)) k) (hvS_lt hH hs (by omega))
    rw [es] at hq
    refine a_iload 0 dSlips_tryOut_11 rfl ?_
    refine a_aload_n 2 dSlips_tryOut_13 rfl rfl ?_
    refine a_geti dSlips_tryOut_14 fl8_35 rfl (of_l0 ho) (by omega) ?_
    rw [show (m_row (m_row (m_row (m_row I 88 s.1) 89 s.2.1) 90 s.2.2.1) 91 s.2.2.2) o 1 = (nI nl) from ((show (m_row (m_row (m_row (m_row I 88 s.1) 89 s.2.1) 90 s.2.2.1) 91 s.2.2.2) o 1 = I o 1 by rw [m_row_ne (oc_ne0 ho (by decide)), m_row_ne (oc_ne0 ho (by decide)), m_row_ne (oc_ne0 ho (by decide)), m_row_ne (oc_ne0 ho (by decide))]).trans hl)]
    refine a_icmp_geN (tgt := 76) dSlips_tryOut_17 (by decide) (by omega) (by omega) (fun c => False.elim (by omega)) (fun _ => ?_)
    refine a_iload_n 4 dSlips_tryOut_20 rfl rfl ?_
    refine a_bipushN (a := 99) dSlips_tryOut_21 (by decide) ?_
    refine a_icmp_eqN (tgt := 39) dSlips_tryOut_23 (by decide) (by omega) (by omega) (fun c23 => ?_) (fun c23 => ?_)
    · refine a_iconstN (a := 0) dSlips_tryOut_39 (by decide) ?_
      refine a_istore (lv' := [(5, .int (nI 0)), (4, .int (nI k)), (0, .ref 85), (1, .ref o), (2, .ref g), (3, .int (nI sp))]) dSlips_tryOut_40 (by decide) rfl ?_
      refine a_aload_n 2 dSlips_tryOut_42 rfl rfl ?_
      refine a_geta (r := 88) dSlips_tryOut_43 fl8_21 rfl ly_85 (by omega) (rf_85_3 hR) ?_
      refine a_iload 1 dSlips_tryOut_46 rfl ?_
      refine a_iload 0 dSlips_tryOut_48 rfl ?_
      refine a_if_eq (tgt := 60) dSlips_tryOut_50 (by decide) (fun _ => ?_) (fun c => False.elim (c rfl))
      refine a_aload_n 3 dSlips_tryOut_60 rfl rfl ?_
      refine a_geta (r := (o + 2)) dSlips_tryOut_61 fl8_38 rfl (of_l0 ho) (by omega) (hr 1 (by decide)) ?_
      refine a_iload 1 dSlips_tryOut_64 rfl ?_
      refine a_ialdN (a := k) dSlips_tryOut_66 (of_l2 ho) (by omega) (by omega) (by decide) ?_
      rw [show (m_row (m_row (m_row (m_row I 88 s.1) 89 s.2.1) 90 s.2.2.1) 91 s.2.2.2) (o + 2) k = I (o + 2) k from (by rw [m_row_ne (oc_ne ho (by decide) (by decide)), m_row_ne (oc_ne ho (by decide) (by decide)), m_row_ne (oc_ne ho (by decide) (by decide)), m_row_ne (oc_ne ho (by decide) (by decide))])]
      rw [show (I (o + 2) k) = (nI (hvS sp (I (o + 2)) k)) from (by unfold hvS; rw [if_neg (by omega)]; exact (hH.hm (by omega)).1)]
      refine a_callV (Q' := m_res none (m_row (m_row (m_row (m_row I 88 (brX (dsO I o) (I (o + 5)) k (s.2.2.1 (hvS sp (I (o + 2)) k)) s.1)) 89 (va_up s.2.1 (hvS sp (I (o + 2)) k) (s.2.1 (hvS sp (I (o + 2)) k) + dsO I o k (s.2.2.1 (hvS sp (I (o + 2)) k))))) 90 (va_up s.2.2.1 (hvS sp (I (o + 2)) k) (I (o + 3) k))) 91 (va_up s.2.2.2 (hvS sp (I (o + 2)) k) (s.2.2.2 (hvS sp (I (o + 2)) k) + 1))) J R) (as := [.int (nI k), .int (nI (hvS sp (I (o + 2)) k))]) (st := []) dSlips_tryOut_67 ml8_49 rfl (Nat.le_of_ble_eq_true rfl) ly_88 rfl rfl (by decide) (by omega) (Nat.le_of_ble_eq_true rfl) rfl (Nat.le_refl _) (Nat.le_refl _) (c_br8 hn hR ho hr hon hh hnh hl hnl hRo (by omega) (hvS_lt hH hs (by omega)) hW hq) (m_go ?_)
      show AW _ _ _ _ _ _ _ _ [] _ _ _ _
      refine a_iincN (lv' := [(4, .int (nI (k + 1))), (5, .int (nI 0)), (0, .ref 85), (1, .ref o), (2, .ref g), (3, .int (nI sp))]) (j := 1) dSlips_tryOut_70 rfl (by decide) rfl ?_
      refine a_goto (tgt := 11) dSlips_tryOut_73 (by decide) ?_
      have ez9 : trN I o sp s0 (k + 1) = ((brX (dsO I o) (I (o + 5)) k (s.2.2.1 (hvS sp (I (o + 2)) k)) s.1), (va_up s.2.1 (hvS sp (I (o + 2)) k) (s.2.1 (hvS sp (I (o + 2)) k) + dsO I o k (s.2.2.1 (hvS sp (I (o + 2)) k)))), (va_up s.2.2.1 (hvS sp (I (o + 2)) k) (I (o + 3) k)), (va_up s.2.2.2 (hvS sp (I (o + 2)) k) (s.2.2.2 (hvS sp (I (o + 2)) k) + 1))) := by
        show trNS I o sp k (trN I o sp s0 k) = _
        rw [es]
        unfold trNS
        rfl
      refine a_locs (lv' := [(4, .int (nI (k + 1))), (0, .ref 85), (1, .ref o), (2, .ref g), (3, .int (nI sp))]) [0, 2, 3, 4, 5] rfl ?_
      exact ih (k + 1) (by omega) ((brX (dsO I o) (I (o + 5)) k (s.2.2.1 (hvS sp (I (o + 2)) k)) s.1), (va_up s.2.1 (hvS sp (I (o + 2)) k) (s.2.1 (hvS sp (I (o + 2)) k) + dsO I o k (s.2.2.1 (hvS sp (I (o + 2)) k)))), (va_up s.2.2.1 (hvS sp (I (o + 2)) k) (I (o + 3) k)), (va_up s.2.2.2 (hvS sp (I (o + 2)) k) (s.2.2.2 (hvS sp (I (o + 2)) k) + 1))) ez9
    · refine a_iload 0 dSlips_tryOut_26 rfl ?_
      refine a_iload_n 4 dSlips_tryOut_28 rfl rfl ?_
      refine a_bipushN (a := 10) dSlips_tryOut_29 (by decide) ?_
      refine a_iremN dSlips_tryOut_31 (by omega) (by omega) (by omega) ?_
      refine a_icmp_neN (tgt := 39) dSlips_tryOut_32 (by decide) (by omega) (by omega) (fun c32 => ?_) (fun c32 => ?_)
      · refine a_iconstN (a := 0) dSlips_tryOut_39 (by decide) ?_
        refine a_istore (lv' := [(5, .int (nI 0)), (4, .int (nI k)), (0, .ref 85), (1, .ref o), (2, .ref g), (3, .int (nI sp))]) dSlips_tryOut_40 (by decide) rfl ?_
        refine a_aload_n 2 dSlips_tryOut_42 rfl rfl ?_
        refine a_geta (r := 88) dSlips_tryOut_43 fl8_21 rfl ly_85 (by omega) (rf_85_3 hR) ?_
        refine a_iload 1 dSlips_tryOut_46 rfl ?_
        refine a_iload 0 dSlips_tryOut_48 rfl ?_
        refine a_if_eq (tgt := 60) dSlips_tryOut_50 (by decide) (fun _ => ?_) (fun c => False.elim (c rfl))
        refine a_aload_n 3 dSlips_tryOut_60 rfl rfl ?_
        refine a_geta (r := (o + 2)) dSlips_tryOut_61 fl8_38 rfl (of_l0 ho) (by omega) (hr 1 (by decide)) ?_
        refine a_iload 1 dSlips_tryOut_64 rfl ?_
        refine a_ialdN (a := k) dSlips_tryOut_66 (of_l2 ho) (by omega) (by omega) (by decide) ?_
        rw [show (m_row (m_row (m_row (m_row I 88 s.1) 89 s.2.1) 90 s.2.2.1) 91 s.2.2.2) (o + 2) k = I (o + 2) k from (by rw [m_row_ne (oc_ne ho (by decide) (by decide)), m_row_ne (oc_ne ho (by decide) (by decide)), m_row_ne (oc_ne ho (by decide) (by decide)), m_row_ne (oc_ne ho (by decide) (by decide))])]
        rw [show (I (o + 2) k) = (nI (hvS sp (I (o + 2)) k)) from (by unfold hvS; rw [if_neg (by omega)]; exact (hH.hm (by omega)).1)]
        refine a_callV (Q' := m_res none (m_row (m_row (m_row (m_row I 88 (brX (dsO I o) (I (o + 5)) k (s.2.2.1 (hvS sp (I (o + 2)) k)) s.1)) 89 (va_up s.2.1 (hvS sp (I (o + 2)) k) (s.2.1 (hvS sp (I (o + 2)) k) + dsO I o k (s.2.2.1 (hvS sp (I (o + 2)) k))))) 90 (va_up s.2.2.1 (hvS sp (I (o + 2)) k) (I (o + 3) k))) 91 (va_up s.2.2.2 (hvS sp (I (o + 2)) k) (s.2.2.2 (hvS sp (I (o + 2)) k) + 1))) J R) (as := [.int (nI k), .int (nI (hvS sp (I (o + 2)) k))]) (st := []) dSlips_tryOut_67 ml8_49 rfl (Nat.le_of_ble_eq_true rfl) ly_88 rfl rfl (by decide) (by omega) (Nat.le_of_ble_eq_true rfl) rfl (Nat.le_refl _) (Nat.le_refl _) (c_br8 hn hR ho hr hon hh hnh hl hnl hRo (by omega) (hvS_lt hH hs (by omega)) hW hq) (m_go ?_)
        show AW _ _ _ _ _ _ _ _ [] _ _ _ _
        refine a_iincN (lv' := [(4, .int (nI (k + 1))), (5, .int (nI 0)), (0, .ref 85), (1, .ref o), (2, .ref g), (3, .int (nI sp))]) (j := 1) dSlips_tryOut_70 rfl (by decide) rfl ?_
        refine a_goto (tgt := 11) dSlips_tryOut_73 (by decide) ?_
        have ez9 : trN I o sp s0 (k + 1) = ((brX (dsO I o) (I (o + 5)) k (s.2.2.1 (hvS sp (I (o + 2)) k)) s.1), (va_up s.2.1 (hvS sp (I (o + 2)) k) (s.2.1 (hvS sp (I (o + 2)) k) + dsO I o k (s.2.2.1 (hvS sp (I (o + 2)) k)))), (va_up s.2.2.1 (hvS sp (I (o + 2)) k) (I (o + 3) k)), (va_up s.2.2.2 (hvS sp (I (o + 2)) k) (s.2.2.2 (hvS sp (I (o + 2)) k) + 1))) := by
          show trNS I o sp k (trN I o sp s0 k) = _
          rw [es]
          unfold trNS
          rfl
        refine a_locs (lv' := [(4, .int (nI (k + 1))), (0, .ref 85), (1, .ref o), (2, .ref g), (3, .int (nI sp))]) [0, 2, 3, 4, 5] rfl ?_
        exact ih (k + 1) (by omega) ((brX (dsO I o) (I (o + 5)) k (s.2.2.1 (hvS sp (I (o + 2)) k)) s.1), (va_up s.2.1 (hvS sp (I (o + 2)) k) (s.2.1 (hvS sp (I (o + 2)) k) + dsO I o k (s.2.2.1 (hvS sp (I (o + 2)) k)))), (va_up s.2.2.1 (hvS sp (I (o + 2)) k) (I (o + 3) k)), (va_up s.2.2.2 (hvS sp (I (o + 2)) k) (s.2.2.2 (hvS sp (I (o + 2)) k) + 1))) ez9
      · refine a_iconstN (a := 1) dSlips_tryOut_35 (by decide) ?_
        refine a_goto (tgt := 40) dSlips_tryOut_36 (by decide) ?_
        refine a_istore (lv' := [(5, .int (nI 1)), (4, .int (nI k)), (0, .ref 85), (1, .ref o), (2, .ref g), (3, .int (nI sp))]) dSlips_tryOut_40 (by decide) rfl ?_
        refine a_aload_n 2 dSlips_tryOut_42 rfl rfl ?_
        refine a_geta (r := 88) dSlips_tryOut_43 fl8_21 rfl ly_85 (by omega) (rf_85_3 hR) ?_
        refine a_iload 1 dSlips_tryOut_46 rfl ?_
        refine a_iload 0 dSlips_tryOut_48 rfl ?_
        refine a_if_eq (tgt := 60) dSlips_tryOut_50 (by decide) (fun c => False.elim (absurd c (by decide))) (fun _ => ?_)
        refine a_iload_n 5 dSlips_tryOut_53 rfl rfl ?_
        refine a_bipushN (a := 10) dSlips_tryOut_54 (by decide) ?_
        refine a_idivN dSlips_tryOut_56 (by omega) (by omega) (by omega) ?_
        rw [show (nI (sp / 10)) = (nI (hvS sp (I (o + 2)) k)) from (by unfold hvS; rw [if_pos ⟨by omega, by omega⟩])]
        refine a_goto (tgt := 67) dSlips_tryOut_57 (by decide) ?_
        refine a_callV (Q' := m_res none (m_row (m_row (m_row (m_row I 88 (brX (dsO I o) (I (o + 5)) k (s.2.2.1 (hvS sp (I (o + 2)) k)) s.1)) 89 (va_up s.2.1 (hvS sp (I (o + 2)) k) (s.2.1 (hvS sp (I (o + 2)) k) + dsO I o k (s.2.2.1 (hvS sp (I (o + 2)) k))))) 90 (va_up s.2.2.1 (hvS sp (I (o + 2)) k) (I (o + 3) k))) 91 (va_up s.2.2.2 (hvS sp (I (o + 2)) k) (s.2.2.2 (hvS sp (I (o + 2)) k) + 1))) J R) (as := [.int (nI k), .int (nI (hvS sp (I (o + 2)) k))]) (st := []) dSlips_tryOut_67 ml8_49 rfl (Nat.le_of_ble_eq_true rfl) ly_88 rfl rfl (by decide) (by omega) (Nat.le_of_ble_eq_true rfl) rfl (Nat.le_refl _) (Nat.le_refl _) (c_br8 hn hR ho hr hon hh hnh hl hnl hRo (by omega) (hvS_lt hH hs (by omega)) hW hq) (m_go ?_)
        show AW _ _ _ _ _ _ _ _ [] _ _ _ _
        refine a_iincN (lv' := [(4, .int (nI (k + 1))), (5, .int (nI 1)), (0, .ref 85), (1, .ref o), (2, .ref g), (3, .int (nI sp))]) (j := 1) dSlips_tryOut_70 rfl (by decide) rfl ?_
        refine a_goto (tgt := 11) dSlips_tryOut_73 (by decide) ?_
        have ez9 : trN I o sp s0 (k + 1) = ((brX (dsO I o) (I (o + 5)) k (s.2.2.1 (hvS sp (I (o + 2)) k)) s.1), (va_up s.2.1 (hvS sp (I (o + 2)) k) (s.2.1 (hvS sp (I (o + 2)) k) + dsO I o k (s.2.2.1 (hvS sp (I (o + 2)) k)))), (va_up s.2.2.1 (hvS sp (I (o + 2)) k) (I (o + 3) k)), (va_up s.2.2.2 (hvS sp (I (o + 2)) k) (s.2.2.2 (hvS sp (I (o + 2)) k) + 1))) := by
          show trNS I o sp k (trN I o sp s0 k) = _
          rw [es]
          unfold trNS
          rfl
        refine a_locs (lv' := [(4, .int (nI (k + 1))), (0, .ref 85), (1, .ref o), (2, .ref g), (3, .int (nI sp))]) [0, 2, 3, 4, 5] rfl ?_
        exact ih (k + 1) (by omega) ((brX (dsO I o) (I (o + 5)) k (s.2.2.1 (hvS sp (I (o + 2)) k)) s.1), (va_up s.2.1 (hvS sp (I (o + 2)) k) (s.2.1 (hvS sp (I (o + 2)) k) + dsO I o k (s.2.2.1 (hvS sp (I (o + 2)) k)))), (va_up s.2.2.1 (hvS sp (I (o + 2)) k) (I (o + 3) k)), (va_up s.2.2.2 (hvS sp (I (o + 2)) k) (s.2.2.2 (hvS sp (I (o + 2)) k) + 1))) ez9
theorem trN_ac {I : mI} {o sp : Nat} {X : Nat → Int32} {s0 : g3} : ∀ k, (trN I o sp (X, s0) k).2 = acN (dsO I o) (I (o + 3)) (hvS sp (I (o + 2))) s0 k := by
  intro k
  induction k with
  | zero => rfl
  | succ k ih =>
    have e : trN I o sp (X, s0) (k + 1) = trNS I o sp k (trN I o sp (X, s0) k) := rfl
    rw [e]
    unfold acN
    rw [← ih]
    generalize trN I o sp (X, s0) k = s
    unfold trNS
    repeat' split
    all_goals rfl
theorem l_agF {S : Nat × (Nat → Int32)} {d n : Nat} {I : mI} {J : mJ} {R : mR} (hn : 122 ≤ n) (hR : m_fin R) {o nh nl : Nat} (ho : o ∈ m_offs) (hr : offR R o) (hon : o + 8 < n) (hh : I o 0 = nI nh) (hnh : nh ≤ 6) (hl : I o 1 = nI nl) (hnl : nl ≤ 10) {g c : Nat} (hg : g ∈ m_lgs) (hgr : lgR R g) (hgn : g + 2 < n) (hcc : I g 0 = nI c) (hc8 : c ≤ 8) (hF : ∀ k, k < c → I (g + 1) k = nI (hmN (I (g + 1)) k) ∧ hmN (I (g + 1)) k < 6) {X md ls cm : Nat → Int32}  {Q : Option Value → mI → mJ → mR → Prop} (h0 : ∀ k, k < c → ¬ ((¬ f_of (nI (hmN (I (g + 1)) k)) (nI nh) = 0 ∧ md (hmN (I (g + 1)) k) = I (g + 2) k)) → Q (some (.int 0)) (m_row (m_row (m_row (m_row I 88 X) 89 md) 90 ls) 91 cm) J R) (hx : (∀ k, k < c → (¬ f_of (nI (hmN (I (g + 1)) k)) (nI nh) = 0 ∧ md (hmN (I (g + 1)) k) = I (g + 2) k)) → AW S (d + 1) YSlips_agrees n n Q 54 [(3, .int (nI c)), (0, .ref 85), (1, .ref o), (2, .ref g)] [] (m_row (m_row (m_row (m_row I 88 X) 89 md) 90 ls) 91 cm) J R n) : ∀ m k, k + m = c → (∀ j, j < k → (¬ f_of (nI (hmN (I (g + 1)) j)) (nI nh) = 0 ∧ md (hmN (I (g + 1)) j) = I (g + 2) j)) → AW S (d + 1) YSlips_agrees n n Q 2 [(3, .int (nI k)), (0, .ref 85), (1, .ref o), (2, .ref g)] [] (m_row (m_row (m_row (m_row I 88 X) 89 md) 90 ls) 91 cm) J R n := by
  intro m
  induction m with
  | zero =>
    intro k hk9 hp
    rw [show k = c by omega] at hp ⊢
    refine a_iload_n 0 dSlips_agrees_2 rfl rfl ?_
    refine a_aload_n 3 dSlips_agrees_3 rfl rfl ?_
    refine a_geti dSlips_agrees_4 fl8_64 rfl (lg_l0 hg) (by omega) ?_
    rw [show (m_row (m_row (m_row (m_row I 88 X) 89 md) 90 ls) 91 cm) g 0 = (nI c) from ((show (m_row (m_row (m_row (m_row I 88 X) 89 md) 90 ls) 91 cm) g 0 = I g 0 by rw [m_row_ne (gc_ne0 hg (by decide)), m_row_ne (gc_ne0 hg (by decide)), m_row_ne (gc_ne0 hg (by decide)), m_row_ne (gc_ne0 hg (by decide))]).trans hcc)]
    refine a_icmp_geN (tgt := 54) dSlips_agrees_7 (by decide) (by omega) (by omega) (fun _ => ?_) (fun c => False.elim (by omega))
    exact hx hp
  | succ m ih =>
    intro k hk9 hp
    have hq6 := (hF k (by omega)).2
    refine a_iload_n 0 dSlips_agrees_2 rfl rfl ?_
    refine a_aload_n 3 dSlips_agrees_3 rfl rfl ?_
    refine a_geti dSlips_agrees_4 fl8_64 rfl (lg_l0 hg) (by omega) ?_
    rw [show (m_row (m_row (m_row (m_row I 88 X) 89 md) 90 ls) 91 cm) g 0 = (nI c) from ((show (m_row (m_row (m_row (m_row I 88 X) 89 md) 90 ls) 91 cm) g 0 = I g 0 by rw [m_row_ne (gc_ne0 hg (by decide)), m_row_ne (gc_ne0 hg (by decide)), m_row_ne (gc_ne0 hg (by decide)), m_row_ne (gc_ne0 hg (by decide))]).trans hcc)]
    refine a_icmp_geN (tgt := 54) dSlips_agrees_7 (by decide) (by omega) (by omega) (fun c => False.elim (by omega)) (fun _ => ?_)
    refine a_aload_n 3 dSlips_agrees_10 rfl rfl ?_
    refine a_geta (r := (g + 1)) dSlips_agrees_11 fl8_69 rfl (lg_l0 hg) (by omega) (hgr 0 (by decide)) ?_
    refine a_iload_n 0 dSlips_agrees_14 rfl rfl ?_
    refine a_ialdN (a := k) dSlips_agrees_15 (lg_l1 hg) (by omega) (by omega) (by decide) ?_
    rw [show (m_row (m_row (m_row (m_row I 88 X) 89 md) 90 ls) 91 cm) (g + 1) k = I (g + 1) k from (by rw [m_row_ne (gc_ne hg (by decide) (by decide)), m_row_ne (gc_ne hg (by decide) (by decide)), m_row_ne (gc_ne hg (by decide) (by decide)), m_row_ne (gc_ne hg (by decide) (by decide))])]
    rw [show (I (g + 1) k) = (nI (hmN (I (g + 1)) k)) from (hF k (by omega)).1]
    refine a_istore (lv' := [(4, .int (nI (hmN (I (g + 1)) k))), (3, .int (nI k)), (0, .ref 85), (1, .ref o), (2, .ref g)]) dSlips_agrees_16 (by decide) rfl ?_
    by_cases hs : f_of (nI (hmN (I (g + 1)) k)) (nI nh) = 0
    · refine a_aload_n 3 dSlips_agrees_18 rfl rfl ?_
      refine a_iload 0 dSlips_agrees_19 rfl ?_
      refine a_callV (Q' := m_res (some (.int (f_of (nI (hmN (I (g + 1)) k)) (nI nh)))) (m_row (m_row (m_row (m_row I 88 X) 89 md) 90 ls) 91 cm) J R) (as := [.int (nI (hmN (I (g + 1)) k))]) (st := []) dSlips_agrees_21 ml8_71 rfl (Nat.le_of_ble_eq_true rfl) (of_l0 ho) rfl rfl (by decide) (by omega) (Nat.le_of_ble_eq_true rfl) rfl (Nat.le_refl _) (Nat.le_refl _) (by have h := c_Office_hasHouse (S := S) (d := d) (n := n) (J := J) (R := R) (I := (m_row (m_row (m_row (m_row I 88 X) 89 md) 90 ls) 91 cm)) (h := (nI (hmN (I (g + 1)) k))) ho hr hon; rw [off_row0 ho (by decide), off_row0 ho (by decide), off_row0 ho (by decide), off_row0 ho (by decide), hh] at h; exact h) (m_go ?_)
      show AW _ _ _ _ _ _ _ _ [.int (f_of (nI (hmN (I (g + 1)) k)) (nI nh))] _ _ _ _
      refine a_if_eq (tgt := 46) dSlips_agrees_24 (by decide) (fun _ => ?_) (fun c => False.elim (c hs))
      refine a_iconstN (a := 0) dSlips_agrees_46 (by decide) ?_
      exact a_zret dSlips_agrees_47 rfl (by rfl) (h0 k (by omega) (fun q => by first | exact q.1 hs | exact ht q.2))
    · refine a_aload_n 3 dSlips_agrees_18 rfl rfl ?_
      refine a_iload 0 dSlips_agrees_19 rfl ?_
      refine a_callV (Q' := m_res (some (.int (f_of (nI (hmN (I (g + 1)) k)) (nI nh)))) (m_row (m_row (m_row (m_row I 88 X) 89 md) 90 ls) 91 cm) J R) (as := [.int (nI (hmN (I (g + 1)) k))]) (st := []) dSlips_agrees_21 ml8_71 rfl (Nat.le_of_ble_eq_true rfl) (of_l0 ho) rfl rfl (by decide) (by omega) (Nat.le_of_ble_eq_true rfl) rfl (Nat.le_refl _) (Nat.le_refl _) (by have h := c_Office_hasHouse (S := S) (d := d) (n := n) (J := J) (R := R) (I := (m_row (m_row (m_row (m_row I 88 X) 89 md) 90 ls) 91 cm)) (h := (nI (hmN (I (g + 1)) k))) ho hr hon; rw [off_row0 ho (by decide), off_row0 ho (by decide), off_row0 ho (by decide), off_row0 ho (by decide), hh] at h; exact h) (m_go ?_)
      show AW _ _ _ _ _ _ _ _ [.int (f_of (nI (hmN (I (g + 1)) k)) (nI nh))] _ _ _ _
      refine a_if_eq (tgt := 46) dSlips_agrees_24 (by decide) (fun c => False.elim (hs c)) (fun _ => ?_)
      by_cases ht : md (hmN (I (g + 1)) k) = I (g + 2) k
      · refine a_aload_n 2 dSlips_agrees_27 rfl rfl ?_
        refine a_geta (r := 88) dSlips_agrees_28 fl8_21 rfl ly_85 (by omega) (rf_85_3 hR) ?_
        refine a_geta (r := 89) dSlips_agrees_31 fl8_57 rfl ly_88 (by omega) (rf_88_6 hR) ?_
        refine a_iload 0 dSlips_agrees_34 rfl ?_
        refine a_ialdN (a := (hmN (I (g + 1)) k)) dSlips_agrees_36 ly_89 (by omega) (by omega) (by decide) ?_
        rw [show (m_row (m_row (m_row (m_row I 88 X) 89 md) 90 ls) 91 cm) 89 (hmN (I (g + 1)) k) = md (hmN (I (g + 1)) k) from rfl]
        refine a_aload_n 4 dSlips_agrees_37 rfl rfl ?_
        refine a_geta (r := (g + 2)) dSlips_agrees_38 fl8_75 rfl (lg_l0 hg) (by omega) (hgr 1 (by decide)) ?_
        refine a_iload_n 1 dSlips_agrees_41 rfl rfl ?_
        refine a_ialdN (a := k) dSlips_agrees_42 (lg_l2 hg) (by omega) (by omega) (by decide) ?_
        rw [show (m_row (m_row (m_row (m_row I 88 X) 89 md) 90 ls) 91 cm) (g + 2) k = I (g + 2) k from (by rw [m_row_ne (gc_ne hg (by decide) (by decide)), m_row_ne (gc_ne hg (by decide) (by decide)), m_row_ne (gc_ne hg (by decide) (by decide)), m_row_ne (gc_ne hg (by decide) (by decide))])]
        refine a_icmp_eq (tgt := 48) dSlips_agrees_43 (by decide) (fun _ => ?_) (fun c => False.elim (c ht))
        refine a_iincN (lv' := [(3, .int (nI (k + 1))), (4, .int (nI (hmN (I (g + 1)) k))), (0, .ref 85), (1, .ref o), (2, .ref g)]) (j := 1) dSlips_agrees_48 rfl (by decide) rfl ?_
        refine a_goto (tgt := 2) dSlips_agrees_51 (by decide) ?_
        refine a_locs (lv' := [(3, .int (nI (k + 1))), (0, .ref 85), (1, .ref o), (2, .ref g)]) [0, 2, 3, 4] rfl ?_
        exact ih (k + 1) (by omega) (fun j hj => by
          rcases Nat.lt_or_eq_of_le (Nat.le_of_lt_succ hj) with h1 | h1
          · exact hp j h1
          · subst h1; exact ⟨hs, ht⟩)
      · refine a_aload_n 2 dSlips_agrees_27 rfl rfl ?_
        refine a_geta (r := 88) dSlips_agrees_28 fl8_21 rfl ly_85 (by omega) (rf_85_3 hR) ?_
        refine a_geta (r := 89) dSlips_agrees_31 fl8_57 rfl ly_88 (by omega) (rf_88_6 hR) ?_
        refine a_iload 0 dSlips_agrees_34 rfl ?_
        refine a_ialdN (a := (hmN (I (g + 1)) k)) dSlips_agrees_36 ly_89 (by omega) (by omega) (by decide) ?_
        rw [show (m_row (m_row (m_row (m_row I 88 X) 89 md) 90 ls) 91 cm) 89 (hmN (I (g + 1)) k) = md (hmN (I (g + 1)) k) from rfl]
        refine a_aload_n 4 dSlips_agrees_37 rfl rfl ?_
        refine a_geta (r := (g + 2)) dSlips_agrees_38 fl8_75 rfl (lg_l0 hg) (by omega) (hgr 1 (by decide)) ?_
        refine a_iload_n 1 dSlips_agrees_41 rfl rfl ?_
        refine a_ialdN (a := k) dSlips_agrees_42 (lg_l2 hg) (by omega) (by omega) (by decide) ?_
        rw [show (m_row (m_row (m_row (m_row I 88 X) 89 md) 90 ls) 91 cm) (g + 2) k = I (g + 2) k from (by rw [m_row_ne (gc_ne hg (by decide) (by decide)), m_row_ne (gc_ne hg (by decide) (by decide)), m_row_ne (gc_ne hg (by decide) (by decide)), m_row_ne (gc_ne hg (by decide) (by decide))])]
        refine a_icmp_eq (tgt := 48) dSlips_agrees_43 (by decide) (fun c => False.elim (ht c)) (fun _ => ?_)
        refine a_iconstN (a := 0) dSlips_agrees_46 (by decide) ?_
        exact a_zret dSlips_agrees_47 rfl (by rfl) (h0 k (by omega) (fun q => by first | exact q.1 hs | exact ht q.2))
abbrev agV (I : mI) (g c nh : Nat) (md : Nat → Int32) : Int32 := if ∀ k, k < c → (¬ f_of (nI (hmN (I (g + 1)) k)) (nI nh) = 0 ∧ md (hmN (I (g + 1)) k) = I (g + 2) k) then 1 else 0
theorem agV_01 (I : mI) (g c nh : Nat) (md : Nat → Int32) : agV I g c nh md = 0 ∨ agV I g c nh md = 1 := by unfold agV; split <;> simp
theorem c_agrees {S : Nat × (Nat → Int32)} {d n : Nat} {I : mI} {J : mJ} {R : mR} (hn : 122 ≤ n) (hR : m_fin R) {o nh nl : Nat} (ho : o ∈ m_offs) (hr : offR R o) (hon : o + 8 < n) (hh : I o 0 = nI nh) (hnh : nh ≤ 6) (hl : I o 1 = nI nl) (hnl : nl ≤ 10) {g c : Nat} (hg : g ∈ m_lgs) (hgr : lgR R g) (hgn : g + 2 < n) (hcc : I g 0 = nI c) (hc8 : c ≤ 8) (hF : ∀ k, k < c → I (g + 1) k = nI (hmN (I (g + 1)) k) ∧ hmN (I (g + 1)) k < 6) {X md ls cm : Nat → Int32}  : RUN S (d + 1) YSlips_agrees [.ref 85, .ref o, .ref g] (m_row (m_row (m_row (m_row I 88 X) 89 md) 90 ls) 91 cm) J R n (some (.int (agV I g c nh md))) (m_row (m_row (m_row (m_row I 88 X) 89 md) 90 ls) 91 cm) J R n := by
  show AW S _ YSlips_agrees n n _ 0 [(0, .ref 85), (1, .ref o), (2, .ref g)] [] (m_row (m_row (m_row (m_row I 88 X) 89 md) 90 ls) 91 cm) J R n
  refine a_iconstN (a := 0) dSlips_agrees_0 (by decide) ?_
  refine a_istore_n (lv' := [(3, .int (nI 0)), (0, .ref 85), (1, .ref o), (2, .ref g)]) dSlips_agrees_1 rfl (by decide) rfl ?_
  refine a_locs (lv' := [(3, .int (nI 0)), (0, .ref 85), (1, .ref o), (2, .ref g)]) [0, 1, 2, 3] rfl ?_
  refine l_agF hn hR ho hr hon hh hnh hl hnl hg hgr hgn hcc hc8 hF (fun k hk2 hp => ?_) (fun hp => ?_) c 0 (by omega) (fun j hj => absurd hj (Nat.not_lt_zero _))
  · exact ⟨by unfold agV; rw [if_neg (fun q => hp (q k hk2))], rfl, rfl, rfl⟩
  · refine a_iconstN (a := 1) dSlips_agrees_54 (by decide) ?_
    exact a_zret dSlips_agrees_55 rfl (by rfl) ⟨by unfold agV; rw [if_pos hp]; rfl, rfl, rfl, rfl⟩
theorem l_aiF {S : Nat × (Nat → Int32)} {d n : Nat} {I : mI} {J : mJ} {R : mR} (hn : 122 ≤ n) (hR : m_fin R) {o nh nl : Nat} (ho : o ∈ m_offs) (hr : offR R o) (hon : o + 8 < n) (hh : I o 0 = nI nh) (hnh : nh ≤ 6) (hl : I o 1 = nI nl) (hnl : nl ≤ 10) {g c : Nat} (hg : g ∈ m_lgs) (hgr : lgR R g) (hgn : g + 2 < n) (hcc : I g 0 = nI c) (hc8 : c ≤ 8) (hF : ∀ k, k < c → I (g + 1) k = nI (hmN (I (g + 1)) k) ∧ hmN (I (g + 1)) k < 6)  {Q : Option Value → mI → mJ → mR → Prop} (h0 : ∀ k, k < c → ¬ (¬ f_of (nI (hmN (I (g + 1)) k)) (nI nh) = 0) → Q (some (.int 0)) I J R) (hx : (∀ k, k < c → ¬ f_of (nI (hmN (I (g + 1)) k)) (nI nh) = 0) → AW S (d + 1) YLog_allIn n n Q 31 [(2, .int (nI c)), (0, .ref g), (1, .ref o)] [] I J R n) : ∀ m k, k + m = c → (∀ j, j < k → ¬ f_of (nI (hmN (I (g + 1)) j)) (nI nh) = 0) → AW S (d + 1) YLog_allIn n n Q 2 [(2, .int (nI k)), (0, .ref g), (1, .ref o)] [] I J R n := by
  intro m
  induction m with
  | zero =>
    intro k hk9 hp
    rw [show k = c by omega] at hp ⊢
    refine a_iload_n 0 dLog_allIn_2 rfl rfl ?_
    refine a_aload_n 1 dLog_allIn_3 rfl rfl ?_
    refine a_geti dLog_allIn_4 fl3_18 rfl (lg_l0 hg) (by omega) ?_
    rw [show I g 0 = (nI c) from hcc]
    refine a_icmp_geN (tgt := 31) dLog_allIn_7 (by decide) (by omega) (by omega) (fun _ => ?_) (fun c => False.elim (by omega))
    exact hx hp
  | succ m ih =>
    intro k hk9 hp
    refine a_iload_n 0 dLog_allIn_2 rfl rfl ?_
    refine a_aload_n 1 dLog_allIn_3 rfl rfl ?_
    refine a_geti dLog_allIn_4 fl3_18 rfl (lg_l0 hg) (by omega) ?_
    rw [show I g 0 = (nI c) from hcc]
    refine a_icmp_geN (tgt := 31) dLog_allIn_7 (by decide) (by omega) (by omega) (fun c => False.elim (by omega)) (fun _ => ?_)
    refine a_aload_n 2 dLog_allIn_10 rfl rfl ?_
    refine a_aload_n 1 dLog_allIn_11 rfl rfl ?_
    refine a_geta (r := (g + 1)) dLog_allIn_12 fl3_9 rfl (lg_l0 hg) (by omega) (hgr 0 (by decide)) ?_
    refine a_iload_n 0 dLog_allIn_15 rfl rfl ?_
    refine a_ialdN (a := k) dLog_allIn_16 (lg_l1 hg) (by omega) (by omega) (by decide) ?_
    rw [show I (g + 1) k = I (g + 1) k from rfl]
    rw [show (I (g + 1) k) = (nI (hmN (I (g + 1)) k)) from (hF k (by omega)).1]
    refine a_callV (Q' := m_res (some (.int (f_of (nI (hmN (I (g + 1)) k)) (nI nh)))) I J R) (as := [.int (nI (hmN (I (g + 1)) k))]) (st := []) dLog_allIn_17 ml3_28 rfl (Nat.le_of_ble_eq_true rfl) (of_l0 ho) rfl rfl (by decide) (by omega) (Nat.le_of_ble_eq_true rfl) rfl (Nat.le_refl _) (Nat.le_refl _) (by have h := c_Office_hasHouse (S := S) (d := d) (n := n) (J := J) (R := R) (I := I) (h := (nI (hmN (I (g + 1)) k))) ho hr hon; rw [hh] at h; exact h) (m_go ?_)
    show AW _ _ _ _ _ _ _ _ [.int (f_of (nI (hmN (I (g + 1)) k)) (nI nh))] _ _ _ _
    refine a_if_ne (tgt := 25) dLog_allIn_20 (by decide) (fun c20 => ?_) (fun c20 => ?_)
    · refine a_iincN (lv' := [(2, .int (nI (k + 1))), (0, .ref g), (1, .ref o)]) (j := 0) dLog_allIn_25 rfl (by decide) rfl ?_
      refine a_goto (tgt := 2) dLog_allIn_28 (by decide) ?_
      exact ih (k + 1) (by omega) (fun j hj => by
        rcases Nat.lt_or_eq_of_le (Nat.le_of_lt_succ hj) with h1 | h1
        · exact hp j h1
        · subst h1; exact c20)
    · refine a_iconstN (a := 0) dLog_allIn_23 (by decide) ?_
      exact a_zret dLog_allIn_24 rfl (by rfl) (h0 k (by omega) (fun q => q c20))
abbrev aiV (I : mI) (g c nh : Nat) : Int32 := if ∀ k, k < c → ¬ f_of (nI (hmN (I (g + 1)) k)) (nI nh) = 0 then 1 else 0
theorem aiV_01 (I : mI) (g c nh : Nat) : aiV I g c nh = 0 ∨ aiV I g c nh = 1 := by unfold aiV; split <;> simp
theorem c_allIn {S : Nat × (Nat → Int32)} {d n : Nat} {I : mI} {J : mJ} {R : mR} (hn : 122 ≤ n) (hR : m_fin R) {o nh nl : Nat} (ho : o ∈ m_offs) (hr : offR R o) (hon : o + 8 < n) (hh : I o 0 = nI nh) (hnh : nh ≤ 6) (hl : I o 1 = nI nl) (hnl : nl ≤ 10) {g c : Nat} (hg : g ∈ m_lgs) (hgr : lgR R g) (hgn : g + 2 < n) (hcc : I g 0 = nI c) (hc8 : c ≤ 8) (hF : ∀ k, k < c → I (g + 1) k = nI (hmN (I (g + 1)) k) ∧ hmN (I (g + 1)) k < 6)  : RUN S (d + 1) YLog_allIn [.ref g, .ref o] I J R n (some (.int (aiV I g c nh))) I J R n := by
  show AW S _ YLog_allIn n n _ 0 [(0, .ref g), (1, .ref o)] [] I J R n
  refine a_iconstN (a := 0) dLog_allIn_0 (by decide) ?_
  refine a_istore_n (lv' := [(2, .int (nI 0)), (0, .ref g), (1, .ref o)]) dLog_allIn_1 rfl (by decide) rfl ?_
  refine a_locs (lv' := [(2, .int (nI 0)), (0, .ref g), (1, .ref o)]) [0, 1, 2] rfl ?_
  refine l_aiF hn hR ho hr hon hh hnh hl hnl hg hgr hgn hcc hc8 hF (fun k hk2 hp => ?_) (fun hp => ?_) c 0 (by omega) (fun j hj => absurd hj (Nat.not_lt_zero _))
  · exact ⟨by unfold aiV; rw [if_neg (fun q => hp (q k hk2))], rfl, rfl, rfl⟩
  · refine a_iconstN (a := 1) dLog_allIn_31 (by decide) ?_
    exact a_zret dLog_allIn_32 rfl (by rfl) ⟨by unfold aiV; rw [if_pos hp]; rfl, rfl, rfl, rfl⟩
