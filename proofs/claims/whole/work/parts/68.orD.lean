/-- the rows of Orders: its fields, group, kinds, doings, gains -/
abbrev r5 : Type := (Nat → Int32) × (Nat → Int32) × (Nat → Int32) × (Nat → Int32) × (Nat → Int32)
def oW (I : mI) (w : r5) : mI := oM I w.1 w.2.1 w.2.2.1 w.2.2.2.1 w.2.2.2.2
def w5 (I : mI) : r5 := (I 64, I 65, I 66, I 67, I 68)
theorem oW_self {I : mI} : oW I (w5 I) = I := oM_self
theorem oW_n {I : mI} {w : r5} {a : Nat} (h : a < 64 ∨ 68 < a) : oW I w a = I a := by
  unfold oW oM
  rw [m_row_ne (show a ≠ 68 by omega), m_row_ne (show a ≠ 67 by omega), m_row_ne (show a ≠ 66 by omega), m_row_ne (show a ≠ 65 by omega), m_row_ne (show a ≠ 64 by omega)]
theorem off_64 {o : Nat} (ho : o ∈ m_offs) (k : Nat) (hk : k ≤ 8) : o + k < 64 ∨ 68 < o + k := (show ∀ o ∈ m_offs, ∀ k, k ≤ 8 → (o + k < 64 ∨ 68 < o + k) by decide +kernel) o ho k hk
theorem oW_o {I : mI} {w : r5} {o : Nat} (ho : o ∈ m_offs) (k : Nat) (hk : k ≤ 8) : oW I w (o + k) = I (o + k) := oW_n (off_64 ho k hk)
theorem oW_o0 {I : mI} {w : r5} {o : Nat} (ho : o ∈ m_offs) : oW I w o = I o := oW_o ho 0 (by decide)
theorem oW_f {I : mI} {w : r5} {k : Nat} {x : Int32} : m_up (oW I w) 64 k x = oW I (va_up w.1 k x, w.2) := by
  unfold oW oM
  rw [m_up_comm (by decide), m_up_comm (by decide), m_up_comm (by decide), m_up_comm (by decide), m_up_r]
theorem oW_up {I : mI} {w : r5} {a k : Nat} {x : Int32} (h : a < 64 ∨ 68 < a) : m_up (oW I w) a k x = oW (m_up I a k x) w := by
  unfold oW oM
  rw [m_up_comm (show a ≠ 68 by omega), m_up_comm (show a ≠ 67 by omega), m_up_comm (show a ≠ 66 by omega), m_up_comm (show a ≠ 65 by omega), m_up_comm (show a ≠ 64 by omega)]
theorem oW_row {I : mI} {w : r5} {a : Nat} {f : Nat → Int32} (h : a < 64 ∨ 68 < a) : m_row (oW I w) a f = oW (m_row I a f) w := by
  unfold oW oM
  rw [m_row_c (show 68 ≠ a by omega), m_row_c (show 67 ≠ a by omega), m_row_c (show 66 ≠ a by omega), m_row_c (show 65 ≠ a by omega), m_row_c (show 64 ≠ a by omega)]
def moR (I : mI) (o nl h : Nat) (wo sg : Int32) (w : r5) : r5 := (va_up w.1 2 (nI (grT I o h nl wo sg w.2.1 w.2.2.1 w.2.2.2.1).1), (grT I o h nl wo sg w.2.1 w.2.2.1 w.2.2.2.1).2.1, (grT I o h nl wo sg w.2.1 w.2.2.1 w.2.2.2.1).2.2.1, (grT I o h nl wo sg w.2.1 w.2.2.1 w.2.2.2.1).2.2.2, mgT (grT I o h nl wo sg w.2.1 w.2.2.1 w.2.2.2.1) w.2.2.2.2)
def moX (I : mI) (o nl h : Nat) (wo sg : Int32) (w : r5) : Int32 := I (o + 1) h + sg * mgT (grT I o h nl wo sg w.2.1 w.2.2.1 w.2.2.2.1) w.2.2.2.2 (5 * (2 ^ (grT I o h nl wo sg w.2.1 w.2.2.1 w.2.2.2.1).1 - 1) + 4)
def sgU (u : Int32) : Int32 := if u = 0 then nI 1 else -1
theorem c_moodOf {S : Nat × (Nat → Int32)} {d n : Nat} {I : mI} {J : mJ} {R : mR} (hn : 122 ≤ n) (hR : m_fin R) {o nh nl : Nat} (ho : o ∈ m_offs) (hr : offR R o) (hon : o + 8 < n) (hh : I o 0 = nI nh) (hnh : nh ≤ 6) (hl : I o 1 = nI nl) (hnl : nl ≤ 10) (hW : WFc I o nl) (hH : WFh (I (o + 2)) nl) {h : Nat} (hh6 : h < nh) {wo u : Int32} {w : r5} : RUN S (d + 3) YOrders_moodOf [.ref 64, .ref o, .int (nI h), .int wo, .int u] (oW I w) J R n (some (.int (moX I o nl h wo (sgU u) w))) (oW I (moR I o nl h wo (sgU u) w)) J R n := by
  show AW S _ YOrders_moodOf n n _ 0 [(0, .ref 64), (1, .ref o), (2, .int (nI h)), (3, .int wo), (4, .int u)] [] (m_row (m_row (m_row (m_row (m_row I 64 w.1) 65 w.2.1) 66 w.2.2.1) 67 w.2.2.2.1) 68 w.2.2.2.2) J R n
  refine a_iload 4 dOrders_moodOf_0 rfl ?_
  refine a_if_eq (tgt := 9) dOrders_moodOf_2 (by decide) (fun c2 => ?_) (fun c2 => ?_)
  · refine a_iconstN (a := 1) dOrders_moodOf_9 (by decide) ?_
    refine a_istore (lv' := [(5, .int (nI 1)), (0, .ref 64), (1, .ref o), (2, .int (nI h)), (3, .int wo), (4, .int u)]) dOrders_moodOf_10 (by decide) rfl ?_
    rw [(show sgU u = nI 1 from by unfold sgU; rw [if_pos c2])]
    refine a_locs (lv' := [(5, .int (nI 1)), (0, .ref 64), (1, .ref o), (2, .int (nI h)), (3, .int wo), (4, .int u)]) [0, 1, 2, 3, 4, 5] rfl ?_
    exact b_moodOf hn hR ho hr hon hh hnh hl hnl hW hH hh6 ⟨rfl, rfl, rfl, rfl⟩
  · refine a_iconst (v := -1) dOrders_moodOf_5 (by decide) ?_
    refine a_goto (tgt := 10) dOrders_moodOf_6 (by decide) ?_
    refine a_istore (lv' := [(5, .int (-1)), (0, .ref 64), (1, .ref o), (2, .int (nI h)), (3, .int wo), (4, .int u)]) dOrders_moodOf_10 (by decide) rfl ?_
    rw [(show sgU u = -1 from by unfold sgU; rw [if_neg c2])]
    refine a_locs (lv' := [(5, .int (-1)), (0, .ref 64), (1, .ref o), (2, .int (nI h)), (3, .int wo), (4, .int u)]) [0, 1, 2, 3, 4, 5] rfl ?_
    exact b_moodOf hn hR ho hr hon hh hnh hl hnl hW hH hh6 ⟨rfl, rfl, rfl, rfl⟩
def tgNS (I : mI) (o nl : Nat) (k : Nat) (s : Int32 × r5) : Int32 × r5 := ((s.1 + (moX I o nl k (-1) (sgU (nI 0)) s.2)), (moR I o nl k (-1) (sgU (nI 0)) s.2))
def tgN (I : mI) (o nl : Nat) (s0 : Int32 × r5) : Nat → Int32 × r5
  | 0 => s0
  | k + 1 => tgNS I o nl k (tgN I o nl s0 k)
theorem l_tgN {S : Nat × (Nat → Int32)} {d n : Nat} {I : mI} {J : mJ} {R : mR} (hn : 122 ≤ n) (hR : m_fin R) {o nh nl : Nat} (ho : o ∈ m_offs) (hr : offR R o) (hon : o + 8 < n) (hh : I o 0 = nI nh) (hnh : nh ≤ 6) (hl : I o 1 = nI nl) (hnl : nl ≤ 10) (hW : WFc I o nl) (hH : WFh (I (o + 2)) nl)  {s0 : Int32 × r5} {Q : Option Value → mI → mJ → mR → Prop}  (hx : AW S (d + 4) YOrders_together n n Q 29 [(3, .int (nI nh)), (2, .int (tgN I o nl s0 nh).1), (0, .ref 64), (1, .ref o)] [] (oW I ((tgN I o nl s0 nh).2)) J R n) : ∀ m k, k + m = nh → ∀ s : Int32 × r5, tgN I o nl s0 k = s → AW S (d + 4) YOrders_together n n Q 4 [(3, .int (nI k)), (2, .int s.1), (0, .ref 64), (1, .ref o)] [] (oW I s.2) J R n := by
  intro m
  induction m with
  | zero =>
    intro k hk9 s es
    rw [show k = nh by omega] at es ⊢
    subst es
    refine a_iload_n 0 dOrders_together_4 rfl rfl ?_
    refine a_aload_n 3 dOrders_together_5 rfl rfl ?_
    refine a_geti dOrders_together_6 fl5_66 rfl (of_l0 ho) (by omega) ?_
    rw [show (oW I ((tgN I o nl s0 nh).2)) o 0 = (nI nh) from (by rw [oW_o0 ho]; exact hh)]
    refine a_icmp_geN (tgt := 29) dOrders_together_9 (by decide) (by omega) (by omega) (fun _ => ?_) (fun c => False.elim (by omega))
    exact hx
  | succ m ih =>
    intro k hk9 s es
    refine a_iload_n 0 dOrders_together_4 rfl rfl ?_
    refine a_aload_n 3 dOrders_together_5 rfl rfl ?_
    refine a_geti dOrders_together_6 fl5_66 rfl (of_l0 ho) (by omega) ?_
    rw [show (oW I s.2) o 0 = (nI nh) from (by rw [oW_o0 ho]; exact hh)]
    refine a_icmp_geN (tgt := 29) dOrders_together_9 (by decide) (by omega) (by omega) (fun c => False.elim (by omega)) (fun _ => ?_)
    refine a_iload_n 1 dOrders_together_12 rfl rfl ?_
    refine a_aload_n 2 dOrders_together_13 rfl rfl ?_
    refine a_aload_n 3 dOrders_together_14 rfl rfl ?_
    refine a_iload_n 0 dOrders_together_15 rfl rfl ?_
    refine a_iconst (v := -1) dOrders_together_16 (by decide) ?_
    refine a_iconstN (a := 0) dOrders_together_17 (by decide) ?_
    refine a_callV (Q' := m_res (some (.int (moX I o nl k (-1) (sgU (nI 0)) s.2))) (oW I (moR I o nl k (-1) (sgU (nI 0)) s.2)) J R) (as := [.ref o, .int (nI k), .int (-1), .int (nI 0)]) (st := [.int s.1]) dOrders_together_18 ml5_69 rfl (Nat.le_of_ble_eq_true rfl) ly_64 rfl rfl (by decide) (by omega) (Nat.le_of_ble_eq_true rfl) rfl (Nat.le_refl _) (Nat.le_refl _) (by have h := c_moodOf (S := S) (d := d) (n := n) (J := J) (R := R) (I := I) (o := o) (w := s.2) (wo := (-1)) (u := (nI 0)) hn hR ho hr hon hh hnh hl hnl hW hH (h := k) (by omega); exact h) (m_go ?_)
    show AW _ _ _ _ _ _ _ _ [.int (moX I o nl k (-1) (sgU (nI 0)) s.2), .int s.1] _ _ _ _
    refine a_iadd dOrders_together_21 ?_
    refine a_istore_n (lv' := [(2, .int (s.1 + (moX I o nl k (-1) (sgU (nI 0)) s.2))), (3, .int (nI k)), (0, .ref 64), (1, .ref o)]) dOrders_together_22 rfl (by decide) rfl ?_
    refine a_iincN (lv' := [(3, .int (nI (k + 1))), (2, .int (s.1 + (moX I o nl k (-1) (sgU (nI 0)) s.2))), (0, .ref 64), (1, .ref o)]) (j := 1) dOrders_together_23 rfl (by decide) rfl ?_
    refine a_goto (tgt := 4) dOrders_together_26 (by decide) ?_
    have ez9 : tgN I o nl s0 (k + 1) = ((s.1 + (moX I o nl k (-1) (sgU (nI 0)) s.2)), (moR I o nl k (-1) (sgU (nI 0)) s.2)) := by
      show tgNS I o nl k (tgN I o nl s0 k) = _
      rw [es]
      unfold tgNS
      rfl
    exact ih (k + 1) (by omega) ((s.1 + (moX I o nl k (-1) (sgU (nI 0)) s.2)), (moR I o nl k (-1) (sgU (nI 0)) s.2)) ez9
abbrev tgT (I : mI) (o nh nl : Nat) (w : r5) : Int32 × r5 := tgN I o nl (nI 0, w) nh
theorem c_together {S : Nat × (Nat → Int32)} {d n : Nat} {I : mI} {J : mJ} {R : mR} (hn : 122 ≤ n) (hR : m_fin R) {o nh nl : Nat} (ho : o ∈ m_offs) (hr : offR R o) (hon : o + 8 < n) (hh : I o 0 = nI nh) (hnh : nh ≤ 6) (hl : I o 1 = nI nl) (hnl : nl ≤ 10) (hW : WFc I o nl) (hH : WFh (I (o + 2)) nl) {w : r5}  : RUN S (d + 4) YOrders_together [.ref 64, .ref o] (oW I w) J R n (some (.int (tgT I o nh nl w).1)) (oW I (tgT I o nh nl w).2) J R n := by
  show AW S _ YOrders_together n n _ 0 [(0, .ref 64), (1, .ref o)] [] (oW I w) J R n
  refine a_iconstN (a := 0) dOrders_together_0 (by decide) ?_
  refine a_istore_n (lv' := [(2, .int (nI 0)), (0, .ref 64), (1, .ref o)]) dOrders_together_1 rfl (by decide) rfl ?_
  refine a_iconstN (a := 0) dOrders_together_2 (by decide) ?_
  refine a_istore_n (lv' := [(3, .int (nI 0)), (2, .int (nI 0)), (0, .ref 64), (1, .ref o)]) dOrders_together_3 rfl (by decide) rfl ?_
  refine l_tgN (s0 := (nI 0, w)) hn hR ho hr hon hh hnh hl hnl hW hH ?_ nh 0 (by omega) _ rfl
  refine a_iload_n 1 dOrders_together_29 rfl rfl ?_
  exact a_iret dOrders_together_30 rfl ⟨rfl, rfl, rfl, rfl⟩
def tcNS (I : mI) (o nl : Nat) (k : Nat) (s : Nat × r5) : Nat × r5 := (if (moX I o nl k (-1) (sgU (nI 0)) s.2) = (moX I o nl k (-1) (sgU (nI 1)) (moR I o nl k (-1) (sgU (nI 0)) s.2)) then (s.1, (moR I o nl k (-1) (sgU (nI 1)) (moR I o nl k (-1) (sgU (nI 0)) s.2))) else ((s.1 + 1), (moR I o nl k (-1) (sgU (nI 1)) (moR I o nl k (-1) (sgU (nI 0)) s.2))))
def tcN (I : mI) (o nl : Nat) (s0 : Nat × r5) : Nat → Nat × r5
  | 0 => s0
  | k + 1 => tcNS I o nl k (tcN I o nl s0 k)
theorem l_tcN {S : Nat × (Nat → Int32)} {d n : Nat} {I : mI} {J : mJ} {R : mR} (hn : 122 ≤ n) (hR : m_fin R) {o nh nl : Nat} (ho : o ∈ m_offs) (hr : offR R o) (hon : o + 8 < n) (hh : I o 0 = nI nh) (hnh : nh ≤ 6) (hl : I o 1 = nI nl) (hnl : nl ≤ 10) (hW : WFc I o nl) (hH : WFh (I (o + 2)) nl)  {s0 : Nat × r5} {Q : Option Value → mI → mJ → mR → Prop}  (hx : AW S (d + 4) YOrders_touched n n Q 40 [(3, .int (nI nh)), (2, .int (nI (tcN I o nl s0 nh).1)), (0, .ref 64), (1, .ref o)] [] (oW I ((tcN I o nl s0 nh).2)) J R n) : ∀ m k, k + m = nh → ∀ s : Nat × r5, tcN I o nl s0 k = s → AW S (d + 4) YOrders_touched n n Q 4 [(3, .int (nI k)), (2, .int (nI s.1)), (0, .ref 64), (1, .ref o)] [] (oW I s.2) J R n := by
  intro m
  induction m with
  | zero =>
    intro k hk9 s es
    rw [show k = nh by omega] at es ⊢
    subst es
    refine a_iload_n 0 dOrders_touched_4 rfl rfl ?_
    refine a_aload_n 3 dOrders_touched_5 rfl rfl ?_
    refine a_geti dOrders_touched_6 fl5_66 rfl (of_l0 ho) (by omega) ?_
    rw [show (oW I ((tcN I o nl s0 nh).2)) o 0 = (nI nh) from (by rw [oW_o0 ho]; exact hh)]
    refine a_icmp_geN (tgt := 40) dOrders_touched_9 (by decide) (by omega) (by omega) (fun _ => ?_) (fun c => False.elim (by omega))
    exact hx
  | succ m ih =>
    intro k hk9 s es
    refine a_iload_n 0 dOrders_touched_4 rfl rfl ?_
    refine a_aload_n 3 dOrders_touched_5 rfl rfl ?_
    refine a_geti dOrders_touched_6 fl5_66 rfl (of_l0 ho) (by omega) ?_
    rw [show (oW I s.2) o 0 = (nI nh) from (by rw [oW_o0 ho]; exact hh)]
    refine a_icmp_geN (tgt := 40) dOrders_touched_9 (by decide) (by omega) (by omega) (fun c => False.elim (by omega)) (fun _ => ?_)
    refine a_aload_n 2 dOrders_touched_12 rfl rfl ?_
    refine a_aload_n 3 dOrders_touched_13 rfl rfl ?_
    refine a_iload_n 0 dOrders_touched_14 rfl rfl ?_
    refine a_iconst (v := -1) dOrders_touched_15 (by decide) ?_
    refine a_iconstN (a := 0) dOrders_touched_16 (by decide) ?_
    refine a_callV (Q' := m_res (some (.int (moX I o nl k (-1) (sgU (nI 0)) s.2))) (oW I (moR I o nl k (-1) (sgU (nI 0)) s.2)) J R) (as := [.ref o, .int (nI k), .int (-1), .int (nI 0)]) (st := []) dOrders_touched_17 ml5_69 rfl (Nat.le_of_ble_eq_true rfl) ly_64 rfl rfl (by decide) (by omega) (Nat.le_of_ble_eq_true rfl) rfl (Nat.le_refl _) (Nat.le_refl _) (by have h := c_moodOf (S := S) (d := d) (n := n) (J := J) (R := R) (I := I) (o := o) (w := s.2) (wo := (-1)) (u := (nI 0)) hn hR ho hr hon hh hnh hl hnl hW hH (h := k) (by omega); exact h) (m_go ?_)
    show AW _ _ _ _ _ _ _ _ [.int (moX I o nl k (-1) (sgU (nI 0)) s.2)] _ _ _ _
    refine a_aload_n 2 dOrders_touched_20 rfl rfl ?_
    refine a_aload_n 3 dOrders_touched_21 rfl rfl ?_
    refine a_iload_n 0 dOrders_touched_22 rfl rfl ?_
    refine a_iconst (v := -1) dOrders_touched_23 (by decide) ?_
    refine a_iconstN (a := 1) dOrders_touched_24 (by decide) ?_
    refine a_callV (Q' := m_res (some (.int (moX I o nl k (-1) (sgU (nI 1)) (moR I o nl k (-1) (sgU (nI 0)) s.2)))) (oW I (moR I o nl k (-1) (sgU (nI 1)) (moR I o nl k (-1) (sgU (nI 0)) s.2))) J R) (as := [.ref o, .int (nI k), .int (-1), .int (nI 1)]) (st := [.int (moX I o nl k (-1) (sgU (nI 0)) s.2)]) dOrders_touched_25 ml5_69 rfl (Nat.le_of_ble_eq_true rfl) ly_64 rfl rfl (by decide) (by omega) (Nat.le_of_ble_eq_true rfl) rfl (Nat.le_refl _) (Nat.le_refl _) (by have h := c_moodOf (S := S) (d := d) (n := n) (J := J) (R := R) (I := I) (o := o) (w := (moR I o nl k (-1) (sgU (nI 0)) s.2)) (wo := (-1)) (u := (nI 1)) hn hR ho hr hon hh hnh hl hnl hW hH (h := k) (by omega); exact h) (m_go ?_)
    show AW _ _ _ _ _ _ _ _ [.int (moX I o nl k (-1) (sgU (nI 1)) (moR I o nl k (-1) (sgU (nI 0)) s.2)), .int (moX I o nl k (-1) (sgU (nI 0)) s.2)] _ _ _ _
    refine a_icmp_eq (tgt := 34) dOrders_touched_28 (by decide) (fun c28 => ?_) (fun c28 => ?_)
    · refine a_iincN (lv' := [(3, .int (nI (k + 1))), (2, .int (nI s.1)), (0, .ref 64), (1, .ref o)]) (j := 0) dOrders_touched_34 rfl (by decide) rfl ?_
      refine a_goto (tgt := 4) dOrders_touched_37 (by decide) ?_
      have ez9 : tcN I o nl s0 (k + 1) = (s.1, (moR I o nl k (-1) (sgU (nI 1)) (moR I o nl k (-1) (sgU (nI 0)) s.2))) := by
        show tcNS I o nl k (tcN I o nl s0 k) = _
        rw [es]
        unfold tcNS
        rw [if_pos c28]
      exact ih (k + 1) (by omega) (s.1, (moR I o nl k (-1) (sgU (nI 1)) (moR I o nl k (-1) (sgU (nI 0)) s.2))) ez9
    · refine a_iincN (lv' := [(2, .int (nI (s.1 + 1))), (3, .int (nI k)), (0, .ref 64), (1, .ref o)]) (j := 1) dOrders_touched_31 rfl (by decide) rfl ?_
      refine a_iincN (lv' := [(3, .int (nI (k + 1))), (2, .int (nI (s.1 + 1))), (0, .ref 64), (1, .ref o)]) (j := 1) dOrders_touched_34 rfl (by decide) rfl ?_
      refine a_goto (tgt := 4) dOrders_touched_37 (by decide) ?_
      have ez9 : tcN I o nl s0 (k + 1) = ((s.1 + 1), (moR I o nl k (-1) (sgU (nI 1)) (moR I o nl k (-1) (sgU (nI 0)) s.2))) := by
        show tcNS I o nl k (tcN I o nl s0 k) = _
        rw [es]
        unfold tcNS
        rw [if_neg c28]
      exact ih (k + 1) (by omega) ((s.1 + 1), (moR I o nl k (-1) (sgU (nI 1)) (moR I o nl k (-1) (sgU (nI 0)) s.2))) ez9
theorem c_touched {S : Nat × (Nat → Int32)} {d n : Nat} {I : mI} {J : mJ} {R : mR} (hn : 122 ≤ n) (hR : m_fin R) {o nh nl : Nat} (ho : o ∈ m_offs) (hr : offR R o) (hon : o + 8 < n) (hh : I o 0 = nI nh) (hnh : nh ≤ 6) (hl : I o 1 = nI nl) (hnl : nl ≤ 10) (hW : WFc I o nl) (hH : WFh (I (o + 2)) nl) {w : r5}  : RUN S (d + 4) YOrders_touched [.ref 64, .ref o] (oW I w) J R n (some (.int (nI (tcN I o nl (0, w) nh).1))) (oW I (tcN I o nl (0, w) nh).2) J R n := by
  show AW S _ YOrders_touched n n _ 0 [(0, .ref 64), (1, .ref o)] [] (oW I w) J R n
  refine a_iconstN (a := 0) dOrders_touched_0 (by decide) ?_
  refine a_istore_n (lv' := [(2, .int (nI 0)), (0, .ref 64), (1, .ref o)]) dOrders_touched_1 rfl (by decide) rfl ?_
  refine a_iconstN (a := 0) dOrders_touched_2 (by decide) ?_
  refine a_istore_n (lv' := [(3, .int (nI 0)), (2, .int (nI 0)), (0, .ref 64), (1, .ref o)]) dOrders_touched_3 rfl (by decide) rfl ?_
  refine l_tcN (s0 := (0, w)) hn hR ho hr hon hh hnh hl hnl hW hH ?_ nh 0 (by omega) _ rfl
  refine a_iload_n 1 dOrders_touched_40 rfl rfl ?_
  exact a_iret dOrders_touched_41 rfl ⟨rfl, rfl, rfl, rfl⟩
theorem HO69 {I : mI} {o : Nat} {b : Nat → Int32} (ho : o ∈ m_offs) (k : Nat) (hk : k < 9) : m_row I 69 b (o + k) = I (o + k) := off_row ho (by decide) hk
theorem ds69 {I : mI} {o : Nat} {b : Nat → Int32} (ho : o ∈ m_offs) : dsO (m_row I 69 b) o = dsO I o := dsO_row ho (by decide)
theorem adD_eq {I I' : mI} {o l sz : Nat} {sg : Int32} (h1 : dsO I' o = dsO I o) {dg : Nat → Int32} : ∀ k, adD I' o l sz sg dg k = adD I o l sz sg dg k := by
  intro k
  induction k with
  | zero => rfl
  | succ k ih =>
    show adDS I' o l sz sg k (adD I' o l sz sg dg k) = adDS I o l sz sg k (adD I o l sz sg dg k)
    rw [ih]
    unfold adDS
    rw [h1]
theorem grA_eq {I I' : mI} {o h : Nat} {wo sg : Int32} (h1 : dsO I' o = dsO I o) (h2 : I' (o + 2) = I (o + 2)) (h3 : I' (o + 3) = I (o + 3)) {s0 : gr4} : ∀ k, grA I' o h wo sg s0 k = grA I o h wo sg s0 k := by
  intro k
  induction k with
  | zero => rfl
  | succ k ih =>
    show grAS I' o h wo sg k (grA I' o h wo sg s0 k) = grAS I o h wo sg k (grA I o h wo sg s0 k)
    rw [ih]
    unfold grAS
    rw [h2, h3, adD_eq h1]
theorem moX_eq {I I' : mI} {o nl h : Nat} {wo sg : Int32} {w : r5} (h0 : I' (o + 1) = I (o + 1)) (h1 : dsO I' o = dsO I o) (h2 : I' (o + 2) = I (o + 2)) (h3 : I' (o + 3) = I (o + 3)) : moX I' o nl h wo sg w = moX I o nl h wo sg w := by
  unfold moX grT
  rw [grA_eq h1 h2 h3, h0]
theorem moR_eq {I I' : mI} {o nl h : Nat} {wo sg : Int32} {w : r5} (h1 : dsO I' o = dsO I o) (h2 : I' (o + 2) = I (o + 2)) (h3 : I' (o + 3) = I (o + 3)) : moR I' o nl h wo sg w = moR I o nl h wo sg w := by
  unfold moR grT
  rw [grA_eq h1 h2 h3]
def raAS (I : mI) (o nl : Nat) (k : Nat) (s : (Nat → Int32) × r5) : (Nat → Int32) × r5 := ((va_up s.1 k (moX I o nl k (-1) (sgU (nI 0)) s.2)), (moR I o nl k (-1) (sgU (nI 0)) s.2))
def raA (I : mI) (o nl : Nat) (s0 : (Nat → Int32) × r5) : Nat → (Nat → Int32) × r5
  | 0 => s0
  | k + 1 => raAS I o nl k (raA I o nl s0 k)
theorem l_raA {S : Nat × (Nat → Int32)} {d n : Nat} {I : mI} {J : mJ} {R : mR} (hn : 122 ≤ n) (hR : m_fin R) {o nh nl : Nat} (ho : o ∈ m_offs) (hr : offR R o) (hon : o + 8 < n) (hh : I o 0 = nI nh) (hnh : nh ≤ 6) (hl : I o 1 = nI nl) (hnl : nl ≤ 10) (hW : WFc I o nl) (hH : WFh (I (o + 2)) nl) {x : Int32}  {s0 : (Nat → Int32) × r5} {Q : Option Value → mI → mJ → mR → Prop}  (hx : AW S (d + 4) YOrders_ranked n n Q 30 [(3, .int (nI nh)), (0, .ref 64), (1, .ref o), (2, .int x)] [] (oW (m_row I 69 ((raA I o nl s0 nh).1)) ((raA I o nl s0 nh).2)) J R n) : ∀ m k, k + m = nh → ∀ s : (Nat → Int32) × r5, raA I o nl s0 k = s → AW S (d + 4) YOrders_ranked n n Q 2 [(3, .int (nI k)), (0, .ref 64), (1, .ref o), (2, .int x)] [] (oW (m_row I 69 s.1) s.2) J R n := by
  intro m
  induction m with
  | zero =>
    intro k hk9 s es
    rw [show k = nh by omega] at es ⊢
    subst es
    refine a_iload_n 0 dOrders_ranked_2 rfl rfl ?_
    refine a_aload_n 2 dOrders_ranked_3 rfl rfl ?_
    refine a_geti dOrders_ranked_4 fl5_66 rfl (of_l0 ho) (by omega) ?_
    rw [show (oW (m_row I 69 ((raA I o nl s0 nh).1)) ((raA I o nl s0 nh).2)) o 0 = (nI nh) from (by rw [oW_o0 ho, off_row0 ho (by decide)]; exact hh)]
    refine a_icmp_geN (tgt := 30) dOrders_ranked_7 (by decide) (by omega) (by omega) (fun _ => ?_) (fun c => False.elim (by omega))
    exact hx
  | succ m ih =>
    intro k hk9 s es
    refine a_iload_n 0 dOrders_ranked_2 rfl rfl ?_
    refine a_aload_n 2 dOrders_ranked_3 rfl rfl ?_
    refine a_geti dOrders_ranked_4 fl5_66 rfl (of_l0 ho) (by omega) ?_
    rw [show (oW (m_row I 69 s.1) s.2) o 0 = (nI nh) from (by rw [oW_o0 ho, off_row0 ho (by decide)]; exact hh)]
    refine a_icmp_geN (tgt := 30) dOrders_ranked_7 (by decide) (by omega) (by omega) (fun c => False.elim (by omega)) (fun _ => ?_)
    refine a_aload_n 1 dOrders_ranked_10 rfl rfl ?_
    refine a_geta (r := 69) dOrders_ranked_11 fl5_24 rfl ly_64 (by omega) (rf_64_7 hR) ?_
    refine a_iload_n 0 dOrders_ranked_14 rfl rfl ?_
    refine a_aload_n 1 dOrders_ranked_15 rfl rfl ?_
    refine a_aload_n 2 dOrders_ranked_16 rfl rfl ?_
    refine a_iload_n 0 dOrders_ranked_17 rfl rfl ?_
    refine a_iconst (v := -1) dOrders_ranked_18 (by decide) ?_
    refine a_iconstN (a := 0) dOrders_ranked_19 (by decide) ?_
    refine a_callV (Q' := m_res (some (.int (moX I o nl k (-1) (sgU (nI 0)) s.2))) (oW (m_row I 69 s.1) (moR I o nl k (-1) (sgU (nI 0)) s.2)) J R) (as := [.ref o, .int (nI k), .int (-1), .int (nI 0)]) (st := [.int (nI k), .ref 69]) dOrders_ranked_20 ml5_69 rfl (Nat.le_of_ble_eq_true rfl) ly_64 rfl rfl (by decide) (by omega) (Nat.le_of_ble_eq_true rfl) rfl (Nat.le_refl _) (Nat.le_refl _) (by have h := c_moodOf (S := S) (d := d) (n := n) (J := J) (R := R) (I := (m_row I 69 s.1)) (o := o) (w := s.2) (wo := (-1)) (u := (nI 0)) hn hR ho hr hon (by rw [off_row0 ho (by decide)]; exact hh) hnh (by rw [off_row0 ho (by decide)]; exact hl) hnl (WFc_row ho (by decide) hW) (by rw [HO69 ho 2 (by decide)]; exact hH) (h := k) (by omega); rw [moX_eq (HO69 ho 1 (by decide)) (ds69 ho) (HO69 ho 2 (by decide)) (HO69 ho 3 (by decide)), moR_eq (ds69 ho) (HO69 ho 2 (by decide)) (HO69 ho 3 (by decide))] at h; exact h) (m_go ?_)
    show AW _ _ _ _ _ _ _ _ [.int (moX I o nl k (-1) (sgU (nI 0)) s.2), .int (nI k), .ref 69] _ _ _ _
    refine a_iastN (a := k) dOrders_ranked_23 ly_69 (by omega) (by omega) (by decide) ?_
    rw [oW_up (by decide), m_up_r]
    refine a_iincN (lv' := [(3, .int (nI (k + 1))), (0, .ref 64), (1, .ref o), (2, .int x)]) (j := 0) dOrders_ranked_24 rfl (by decide) rfl ?_
    refine a_goto (tgt := 2) dOrders_ranked_27 (by decide) ?_
    have ez9 : raA I o nl s0 (k + 1) = ((va_up s.1 k (moX I o nl k (-1) (sgU (nI 0)) s.2)), (moR I o nl k (-1) (sgU (nI 0)) s.2)) := by
      show raAS I o nl k (raA I o nl s0 k) = _
      rw [es]
      unfold raAS
      rfl
    exact ih (k + 1) (by omega) ((va_up s.1 k (moX I o nl k (-1) (sgU (nI 0)) s.2)), (moR I o nl k (-1) (sgU (nI 0)) s.2)) ez9
def rkCS (b : Nat → Int32) (t : Nat) (k : Nat) (s : Nat) : Nat := (if (b t) < (b k) then (s + 1) else (if (b k) = (b t) then (if t ≤ k then s else (s + 1)) else s))
def rkC (b : Nat → Int32) (t : Nat) (s0 : Nat) : Nat → Nat
  | 0 => s0
  | k + 1 => rkCS b t k (rkC b t s0 k)
theorem l_rkC {S : Nat × (Nat → Int32)} {d n : Nat} {I : mI} {J : mJ} {R : mR} (hn : 122 ≤ n) (hR : m_fin R) {o nh nl : Nat} (ho : o ∈ m_offs) (hr : offR R o) (hon : o + 8 < n) (hh : I o 0 = nI nh) (hnh : nh ≤ 6) (hl : I o 1 = nI nl) (hnl : nl ≤ 10) (hW : WFc I o nl) (hH : WFh (I (o + 2)) nl) {t : Nat} (ht : t < nh) {b : Nat → Int32} {w : r5}  {s0 : Nat} {Q : Option Value → mI → mJ → mR → Prop}  (hx : AW S d YOrders_rankOf n n Q 61 [(4, .int (nI nh)), (3, .int (nI (rkC b t s0 nh))), (0, .ref 64), (1, .ref o), (2, .int (nI t))] [] (oW (m_row I 69 b) w) J R n) : ∀ m k, k + m = nh → ∀ s : Nat, rkC b t s0 k = s → AW S d YOrders_rankOf n n Q 5 [(4, .int (nI k)), (3, .int (nI s)), (0, .ref 64), (1, .ref o), (2, .int (nI t))] [] (oW (m_row I 69 b) w) J R n := by
  intro m
  induction m with
  | zero =>
    intro k hk9 s es
    rw [show k = nh by omega] at es ⊢
    subst es
    refine a_iload 0 dOrders_rankOf_5 rfl ?_
    refine a_aload_n 3 dOrders_rankOf_7 rfl rfl ?_
    refine a_geti dOrders_rankOf_8 fl5_66 rfl (of_l0 ho) (by omega) ?_
    rw [show (oW (m_row I 69 b) w) o 0 = (nI nh) from (by rw [oW_o0 ho, off_row0 ho (by decide)]; exact hh)]
    refine a_icmp_geN (tgt := 61) dOrders_rankOf_11 (by decide) (by omega) (by omega) (fun _ => ?_) (fun c => False.elim (by omega))
    exact hx
  | succ m ih =>
    intro k hk9 s es
    refine a_iload 0 dOrders_rankOf_5 rfl ?_
    refine a_aload_n 3 dOrders_rankOf_7 rfl rfl ?_
    refine a_geti dOrders_rankOf_8 fl5_66 rfl (of_l0 ho) (by omega) ?_
    rw [show (oW (m_row I 69 b) w) o 0 = (nI nh) from (by rw [oW_o0 ho, off_row0 ho (by decide)]; exact hh)]
    refine a_icmp_geN (tgt := 61) dOrders_rankOf_11 (by decide) (by omega) (by omega) (fun c => False.elim (by omega)) (fun _ => ?_)
    refine a_aload_n 2 dOrders_rankOf_14 rfl rfl ?_
    refine a_geta (r := 69) dOrders_rankOf_15 fl5_24 rfl ly_64 (by omega) (rf_64_7 hR) ?_
    refine a_iload 0 dOrders_rankOf_18 rfl ?_
    refine a_ialdN (a := k) dOrders_rankOf_20 ly_69 (by omega) (by omega) (by decide) ?_
    rw [show (oW (m_row I 69 b) w) 69 k = b k from (by rw [oW_n (by decide), m_row_eq])]
    refine a_aload_n 2 dOrders_rankOf_21 rfl rfl ?_
    refine a_geta (r := 69) dOrders_rankOf_22 fl5_24 rfl ly_64 (by omega) (rf_64_7 hR) ?_
    refine a_iload_n 4 dOrders_rankOf_25 rfl rfl ?_
    refine a_ialdN (a := t) dOrders_rankOf_26 ly_69 (by omega) (by omega) (by decide) ?_
    rw [show (oW (m_row I 69 b) w) 69 t = b t from (by rw [oW_n (by decide), m_row_eq])]
    refine a_icmp_gt (tgt := 52) dOrders_rankOf_27 (by decide) (fun c27 => ?_) (fun c27 => ?_)
    · refine a_iincN (lv' := [(3, .int (nI (s + 1))), (4, .int (nI k)), (0, .ref 64), (1, .ref o), (2, .int (nI t))]) (j := 1) dOrders_rankOf_52 rfl (by decide) rfl ?_
      refine a_iincN (lv' := [(4, .int (nI (k + 1))), (3, .int (nI (s + 1))), (0, .ref 64), (1, .ref o), (2, .int (nI t))]) (j := 1) dOrders_rankOf_55 rfl (by decide) rfl ?_
      refine a_goto (tgt := 5) dOrders_rankOf_58 (by decide) ?_
      have ez9 : rkC b t s0 (k + 1) = (s + 1) := by
        show rkCS b t k (rkC b t s0 k) = _
        rw [es]
        unfold rkCS
        rw [if_pos c27]
      exact ih (k + 1) (by omega) (s + 1) ez9
    · refine a_aload_n 2 dOrders_rankOf_30 rfl rfl ?_
      refine a_geta (r := 69) dOrders_rankOf_31 fl5_24 rfl ly_64 (by omega) (rf_64_7 hR) ?_
      refine a_iload 0 dOrders_rankOf_34 rfl ?_
      refine a_ialdN (a := k) dOrders_rankOf_36 ly_69 (by omega) (by omega) (by decide) ?_
      rw [show (oW (m_row I 69 b) w) 69 k = b k from (by rw [oW_n (by decide), m_row_eq])]
      refine a_aload_n 2 dOrders_rankOf_37 rfl rfl ?_
      refine a_geta (r := 69) dOrders_rankOf_38 fl5_24 rfl ly_64 (by omega) (rf_64_7 hR) ?_
      refine a_iload_n 4 dOrders_rankOf_41 rfl rfl ?_
      refine a_ialdN (a := t) dOrders_rankOf_42 ly_69 (by omega) (by omega) (by decide) ?_
      rw [show (oW (m_row I 69 b) w) 69 t = b t from (by rw [oW_n (by decide), m_row_eq])]
      refine a_icmp_ne (tgt := 55) dOrders_rankOf_43 (by decide) (fun c43 => ?_) (fun c43 => ?_)
      · refine a_iincN (lv' := [(4, .int (nI (k + 1))), (3, .int (nI s)), (0, .ref 64), (1, .ref o), (2, .int (nI t))]) (j := 0) dOrders_rankOf_55 rfl (by decide) rfl ?_
        refine a_goto (tgt := 5) dOrders_rankOf_58 (by decide) ?_
        have ez9 : rkC b t s0 (k + 1) = s := by
          show rkCS b t k (rkC b t s0 k) = _
          rw [es]
          unfold rkCS
          rw [if_neg c27, if_neg c43]
        exact ih (k + 1) (by omega) s ez9
      · refine a_iload 0 dOrders_rankOf_46 rfl ?_
        refine a_iload_n 4 dOrders_rankOf_48 rfl rfl ?_
        refine a_icmp_geN (tgt := 55) dOrders_rankOf_49 (by decide) (by omega) (by omega) (fun c49 => ?_) (fun c49 => ?_)
        · refine a_iincN (lv' := [(4, .int (nI (k + 1))), (3, .int (nI s)), (0, .ref 64), (1, .ref o), (2, .int (nI t))]) (j := 0) dOrders_rankOf_55 rfl (by decide) rfl ?_
          refine a_goto (tgt := 5) dOrders_rankOf_58 (by decide) ?_
          have ez9 : rkC b t s0 (k + 1) = s := by
            show rkCS b t k (rkC b t s0 k) = _
            rw [es]
            unfold rkCS
            rw [if_neg c27, if_pos c43, if_pos (show t ≤ k by omega)]
          exact ih (k + 1) (by omega) s ez9
        · refine a_iincN (lv' := [(3, .int (nI (s + 1))), (4, .int (nI k)), (0, .ref 64), (1, .ref o), (2, .int (nI t))]) (j := 1) dOrders_rankOf_52 rfl (by decide) rfl ?_
          refine a_iincN (lv' := [(4, .int (nI (k + 1))), (3, .int (nI (s + 1))), (0, .ref 64), (1, .ref o), (2, .int (nI t))]) (j := 1) dOrders_rankOf_55 rfl (by decide) rfl ?_
          refine a_goto (tgt := 5) dOrders_rankOf_58 (by decide) ?_
          have ez9 : rkC b t s0 (k + 1) = (s + 1) := by
            show rkCS b t k (rkC b t s0 k) = _
            rw [es]
            unfold rkCS
            rw [if_neg c27, if_pos c43, if_neg (show ¬ (t ≤ k) by omega)]
          exact ih (k + 1) (by omega) (s + 1) ez9
theorem c_rankOf {S : Nat × (Nat → Int32)} {d n : Nat} {I : mI} {J : mJ} {R : mR} (hn : 122 ≤ n) (hR : m_fin R) {o nh nl : Nat} (ho : o ∈ m_offs) (hr : offR R o) (hon : o + 8 < n) (hh : I o 0 = nI nh) (hnh : nh ≤ 6) (hl : I o 1 = nI nl) (hnl : nl ≤ 10) (hW : WFc I o nl) (hH : WFh (I (o + 2)) nl) {t : Nat} (ht : t < nh) {b : Nat → Int32} {w : r5}  : RUN S d YOrders_rankOf [.ref 64, .ref o, .int (nI t)] (oW (m_row I 69 b) w) J R n (some (.int (nI (rkC b t 0 nh)))) (oW (m_row I 69 b) w) J R n := by
  show AW S _ YOrders_rankOf n n _ 0 [(0, .ref 64), (1, .ref o), (2, .int (nI t))] [] (oW (m_row I 69 b) w) J R n
  refine a_iconstN (a := 0) dOrders_rankOf_0 (by decide) ?_
  refine a_istore_n (lv' := [(3, .int (nI 0)), (0, .ref 64), (1, .ref o), (2, .int (nI t))]) dOrders_rankOf_1 rfl (by decide) rfl ?_
  refine a_iconstN (a := 0) dOrders_rankOf_2 (by decide) ?_
  refine a_istore (lv' := [(4, .int (nI 0)), (3, .int (nI 0)), (0, .ref 64), (1, .ref o), (2, .int (nI t))]) dOrders_rankOf_3 (by decide) rfl ?_
  refine l_rkC (s0 := 0) hn hR ho hr hon hh hnh hl hnl hW hH ht ?_ nh 0 (by omega) _ rfl
  refine a_iload_n 1 dOrders_rankOf_61 rfl rfl ?_
  exact a_iret dOrders_rankOf_62 rfl ⟨rfl, rfl, rfl, rfl⟩
theorem l_rkFC {S : Nat × (Nat → Int32)} {d n : Nat} {I : mI} {J : mJ} {R : mR} (hn : 122 ≤ n) (hR : m_fin R) {o nh nl : Nat} (ho : o ∈ m_offs) (hr : offR R o) (hon : o + 8 < n) (hh : I o 0 = nI nh) (hnh : nh ≤ 6) (hl : I o 1 = nI nl) (hnl : nl ≤ 10) (hW : WFc I o nl) (hH : WFh (I (o + 2)) nl) {x : Int32} {b : Nat → Int32} {w : r5}  {Q : Option Value → mI → mJ → mR → Prop} (h0 : ∀ k, k < nh → ¬ (¬ nI (rkC b k 0 nh) = x) → (∀ j, j < k → ¬ nI (rkC b j 0 nh) = x) → Q (some (.int (nI k))) (oW (m_row I 69 b) w) J R) (hx : (∀ k, k < nh → ¬ nI (rkC b k 0 nh) = x) → AW S (d + 4) YOrders_ranked n n Q 58 [(3, .int (nI nh)), (0, .ref 64), (1, .ref o), (2, .int x)] [] (oW (m_row I 69 b) w) J R n) : ∀ m k, k + m = nh → (∀ j, j < k → ¬ nI (rkC b j 0 nh) = x) → AW S (d + 4) YOrders_ranked n n Q 32 [(3, .int (nI k)), (0, .ref 64), (1, .ref o), (2, .int x)] [] (oW (m_row I 69 b) w) J R n := by
  intro m
  induction m with
  | zero =>
    intro k hk9 hp
    rw [show k = nh by omega] at hp ⊢
    refine a_iload_n 0 dOrders_ranked_32 rfl rfl ?_
    refine a_aload_n 2 dOrders_ranked_33 rfl rfl ?_
    refine a_geti dOrders_ranked_34 fl5_66 rfl (of_l0 ho) (by omega) ?_
    rw [show (oW (m_row I 69 b) w) o 0 = (nI nh) from (by rw [oW_o0 ho, off_row0 ho (by decide)]; exact hh)]
    refine a_icmp_geN (tgt := 58) dOrders_ranked_37 (by decide) (by omega) (by omega) (fun _ => ?_) (fun c => False.elim (by omega))
    exact hx hp
  | succ m ih =>
    intro k hk9 hp
    refine a_iload_n 0 dOrders_ranked_32 rfl rfl ?_
    refine a_aload_n 2 dOrders_ranked_33 rfl rfl ?_
    refine a_geti dOrders_ranked_34 fl5_66 rfl (of_l0 ho) (by omega) ?_
    rw [show (oW (m_row I 69 b) w) o 0 = (nI nh) from (by rw [oW_o0 ho, off_row0 ho (by decide)]; exact hh)]
    refine a_icmp_geN (tgt := 58) dOrders_ranked_37 (by decide) (by omega) (by omega) (fun c => False.elim (by omega)) (fun _ => ?_)
    refine a_aload_n 1 dOrders_ranked_40 rfl rfl ?_
    refine a_aload_n 2 dOrders_ranked_41 rfl rfl ?_
    refine a_iload_n 0 dOrders_ranked_42 rfl rfl ?_
    refine a_callV (Q' := m_res (some (.int (nI (rkC b k 0 nh)))) (oW (m_row I 69 b) w) J R) (as := [.ref o, .int (nI k)]) (st := []) dOrders_ranked_43 ml5_99 rfl (Nat.le_of_ble_eq_true rfl) ly_64 rfl rfl (by decide) (by omega) (Nat.le_of_ble_eq_true rfl) rfl (Nat.le_refl _) (Nat.le_refl _) (c_rankOf hn hR ho hr hon hh hnh hl hnl hW hH (by omega)) (m_go ?_)
    show AW _ _ _ _ _ _ _ _ [.int (nI (rkC b k 0 nh))] _ _ _ _
    refine a_iload_n 3 dOrders_ranked_46 rfl rfl ?_
    refine a_icmp_ne (tgt := 52) dOrders_ranked_47 (by decide) (fun c47 => ?_) (fun c47 => ?_)
    · refine a_iincN (lv' := [(3, .int (nI (k + 1))), (0, .ref 64), (1, .ref o), (2, .int x)]) (j := 0) dOrders_ranked_52 rfl (by decide) rfl ?_
      refine a_goto (tgt := 32) dOrders_ranked_55 (by decide) ?_
      exact ih (k + 1) (by omega) (fun j hj => by
        rcases Nat.lt_or_eq_of_le (Nat.le_of_lt_succ hj) with h1 | h1
        · exact hp j h1
        · subst h1; exact c47)
    · refine a_iload_n 0 dOrders_ranked_50 rfl rfl ?_
      exact a_iret dOrders_ranked_51 rfl (h0 k (by omega) (fun q => q c47) hp)
/-- the first house of a rank, of the class -/
def rkVC (b : Nat → Int32) (nh : Nat) (x : Int32) (v : Int32) : Prop := (∃ k, k < nh ∧ nI (rkC b k 0 nh) = x ∧ (∀ j, j < k → ¬ nI (rkC b j 0 nh) = x) ∧ v = nI k) ∨ ((∀ k, k < nh → ¬ nI (rkC b k 0 nh) = x) ∧ v = -1)
theorem b_ranked {S : Nat × (Nat → Int32)} {d n : Nat} {I : mI} {J : mJ} {R : mR} (hn : 122 ≤ n) (hR : m_fin R) {o nh nl : Nat} (ho : o ∈ m_offs) (hr : offR R o) (hon : o + 8 < n) (hh : I o 0 = nI nh) (hnh : nh ≤ 6) (hl : I o 1 = nI nl) (hnl : nl ≤ 10) (hW : WFc I o nl) (hH : WFh (I (o + 2)) nl) {x : Int32} {b : Nat → Int32} {w : r5}  {Q : Option Value → mI → mJ → mR → Prop} (hQ : ∀ v, rkVC (raA I o nl (b, w) nh).1 nh x v → Q (some (.int v)) (oW (m_row I 69 ((raA I o nl (b, w) nh).1)) ((raA I o nl (b, w) nh).2)) J R) : AW S (d + 4) YOrders_ranked n n Q 0 [(0, .ref 64), (1, .ref o), (2, .int x)] [] (oW (m_row I 69 b) w) J R n := by
  refine a_iconstN (a := 0) dOrders_ranked_0 (by decide) ?_
  refine a_istore_n (lv' := [(3, .int (nI 0)), (0, .ref 64), (1, .ref o), (2, .int x)]) dOrders_ranked_1 rfl (by decide) rfl ?_
  refine l_raA (s0 := (b, w)) hn hR ho hr hon hh hnh hl hnl hW hH ?_ nh 0 (by omega) _ rfl
  refine a_iconstN (a := 0) dOrders_ranked_30 (by decide) ?_
  refine a_istore_n (lv' := [(3, .int (nI 0)), (0, .ref 64), (1, .ref o), (2, .int x)]) dOrders_ranked_31 rfl (by decide) rfl ?_
  refine a_locs (lv' := [(3, .int (nI 0)), (0, .ref 64), (1, .ref o), (2, .int x)]) [0, 1, 2, 3] rfl ?_
  refine l_rkFC hn hR ho hr hon hh hnh hl hnl hW hH (fun k hk2 hp hj => hQ _ (Or.inl ⟨k, hk2, Classical.not_not.mp hp, hj, rfl⟩)) (fun hp => ?_) nh 0 (by omega) (fun j hj => absurd hj (Nat.not_lt_zero _))
  refine a_iconst (v := -1) dOrders_ranked_58 (by decide) ?_
  exact a_iret dOrders_ranked_59 rfl (hQ _ (Or.inr ⟨hp, rfl⟩))
