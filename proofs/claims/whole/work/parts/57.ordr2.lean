def abNS (I : mI) (ko nl : Nat) (k : Nat) (s : Int32 × (Nat → Int32)) : Int32 × (Nat → Int32) := ((s.1 + (baR I ko nl k s.2)), (baB I ko nl k s.2))
def abN (I : mI) (ko nl : Nat) (s0 : Int32 × (Nat → Int32)) : Nat → Int32 × (Nat → Int32)
  | 0 => s0
  | k + 1 => abNS I ko nl k (abN I ko nl s0 k)
theorem l_abN {S : Nat × (Nat → Int32)} {d n : Nat} {I : mI} {J : mJ} {R : mR} {ko nh nl : Nat} (hn : 122 ≤ n) (hR : m_fin R) (ho : I 95 23 = nI ko) (hk : ko < 7) (hh : I 95 24 = nI nh) (hnh : nh ≤ 6) (hl : I 95 25 = nI nl) (hnl : nl ≤ 10) (hW : WFk I ko)  {s0 : Int32 × (Nat → Int32)} {Q : Option Value → mI → mJ → mR → Prop}  (hx : AW S (d + 9) YM_allBests n n Q 26 [(2, .int (nI nh)), (1, .int (abN I ko nl s0 nh).1), (0, .ref 95)] [] (m_row I 110 ((abN I ko nl s0 nh).2)) J R n) : ∀ m k, k + m = nh → ∀ s : Int32 × (Nat → Int32), abN I ko nl s0 k = s → AW S (d + 9) YM_allBests n n Q 4 [(2, .int (nI k)), (1, .int s.1), (0, .ref 95)] [] (m_row I 110 s.2) J R n := by
  intro m
  induction m with
  | zero =>
    intro k hk9 s es
    rw [show k = nh by omega] at es ⊢
    subst es
    refine a_iload_n 0 dM_allBests_4 rfl rfl ?_
    refine a_aload_n 2 dM_allBests_5 rfl rfl ?_
    refine a_geti dM_allBests_6 fl12_259 rfl ly_95 (by omega) ?_
    rw [show (m_row I 110 ((abN I ko nl s0 nh).2)) 95 24 = (nI nh) from hh]
    refine a_icmp_geN (tgt := 26) dM_allBests_9 (by decide) (by omega) (by omega) (fun _ => ?_) (fun c => False.elim (by omega))
    exact hx
  | succ m ih =>
    intro k hk9 s es
    refine a_iload_n 0 dM_allBests_4 rfl rfl ?_
    refine a_aload_n 2 dM_allBests_5 rfl rfl ?_
    refine a_geti dM_allBests_6 fl12_259 rfl ly_95 (by omega) ?_
    rw [show (m_row I 110 s.2) 95 24 = (nI nh) from hh]
    refine a_icmp_geN (tgt := 26) dM_allBests_9 (by decide) (by omega) (by omega) (fun c => False.elim (by omega)) (fun _ => ?_)
    refine a_iload_n 1 dM_allBests_12 rfl rfl ?_
    refine a_aload_n 2 dM_allBests_13 rfl rfl ?_
    refine a_iload_n 0 dM_allBests_14 rfl rfl ?_
    refine a_callV (Q' := m_res (some (.int (baR I ko nl k s.2))) (m_row I 110 (baB I ko nl k s.2)) J R) (as := [.int (nI k)]) (st := [.int s.1]) dM_allBests_15 ml12_476 rfl (Nat.le_of_ble_eq_true rfl) ly_95 rfl rfl (by decide) (by omega) (Nat.le_of_ble_eq_true rfl) rfl (Nat.le_refl _) (Nat.le_refl _) (c_M_bestAll hn hR ho hk hh hnh hl hnl hW (by omega)) (m_go ?_)
    show AW _ _ _ _ _ _ _ _ [.int (baR I ko nl k s.2), .int s.1] _ _ _ _
    refine a_iadd dM_allBests_18 ?_
    refine a_istore_n (lv' := [(1, .int (s.1 + (baR I ko nl k s.2))), (2, .int (nI k)), (0, .ref 95)]) dM_allBests_19 rfl (by decide) rfl ?_
    refine a_iincN (lv' := [(2, .int (nI (k + 1))), (1, .int (s.1 + (baR I ko nl k s.2))), (0, .ref 95)]) (j := 1) dM_allBests_20 rfl (by decide) rfl ?_
    refine a_goto (tgt := 4) dM_allBests_23 (by decide) ?_
    have e' : abN I ko nl s0 (k + 1) = ((s.1 + (baR I ko nl k s.2)), (baB I ko nl k s.2)) := by
      show abNS I ko nl k (abN I ko nl s0 k) = _
      rw [es]
      unfold abNS
      rfl
    exact ih (k + 1) (by omega) ((s.1 + (baR I ko nl k s.2)), (baB I ko nl k s.2)) e'
abbrev abT (I : mI) (ko nh nl : Nat) (B : Nat → Int32) : Int32 × (Nat → Int32) := abN I ko nl (nI 0, B) nh
theorem c_M_allBests {S : Nat × (Nat → Int32)} {d n : Nat} {I : mI} {J : mJ} {R : mR} {ko nh nl : Nat} (hn : 122 ≤ n) (hR : m_fin R) (ho : I 95 23 = nI ko) (hk : ko < 7) (hh : I 95 24 = nI nh) (hnh : nh ≤ 6) (hl : I 95 25 = nI nl) (hnl : nl ≤ 10) (hW : WFk I ko) {B : Nat → Int32} : RUN S (d + 9) YM_allBests [.ref 95] (m_row I 110 B) J R n (some (.int (abT I ko nh nl B).1)) (m_row I 110 ((abT I ko nh nl B).2)) J R n := by
  show AW S _ YM_allBests n n _ 0 [(0, .ref 95)] [] (m_row I 110 B) J R n
  refine a_iconstN (a := 0) dM_allBests_0 (by decide) ?_
  refine a_istore_n (lv' := [(1, .int (nI 0)), (0, .ref 95)]) dM_allBests_1 rfl (by decide) rfl ?_
  refine a_iconstN (a := 0) dM_allBests_2 (by decide) ?_
  refine a_istore_n (lv' := [(2, .int (nI 0)), (1, .int (nI 0)), (0, .ref 95)]) dM_allBests_3 rfl (by decide) rfl ?_
  refine l_abN (s0 := (nI 0, B)) hn hR ho hk hh hnh hl hnl hW ?_ nh 0 (by omega) _ rfl
  refine a_iload_n 1 dM_allBests_26 rfl rfl ?_
  exact a_iret dM_allBests_27 rfl ⟨rfl, rfl, rfl, rfl⟩
def toNS (I : mI) (ko nl : Nat) (k : Nat) (s : Nat × (Nat → Int32)) : Nat × (Nat → Int32) := (if (baR I ko nl k s.2) = (boR I ko nl k (ltN (I 106) (nI k) nl) 1 (baB I ko nl k s.2)) then ((s.1 + 0), (foN I ko nl (nI (ltN (I 106) (nI k) nl)) 1 (baB I ko nl k s.2) 1024)) else ((s.1 + 1), (foN I ko nl (nI (ltN (I 106) (nI k) nl)) 1 (baB I ko nl k s.2) 1024)))
def toN (I : mI) (ko nl : Nat) (s0 : Nat × (Nat → Int32)) : Nat → Nat × (Nat → Int32)
  | 0 => s0
  | k + 1 => toNS I ko nl k (toN I ko nl s0 k)
theorem l_toN {S : Nat × (Nat → Int32)} {d n : Nat} {I : mI} {J : mJ} {R : mR} {ko nh nl : Nat} (hn : 122 ≤ n) (hR : m_fin R) (ho : I 95 23 = nI ko) (hk : ko < 7) (hh : I 95 24 = nI nh) (hnh : nh ≤ 6) (hl : I 95 25 = nI nl) (hnl : nl ≤ 10) (hW : WFk I ko)  {s0 : Nat × (Nat → Int32)} {Q : Option Value → mI → mJ → mR → Prop}  (hx : AW S (d + 9) YM_touched n n Q 45 [(2, .int (nI nh)), (1, .int (nI (toN I ko nl s0 nh).1)), (0, .ref 95)] [] (m_row I 110 ((toN I ko nl s0 nh).2)) J R n) : ∀ m k, k + m = nh → ∀ s : Nat × (Nat → Int32), toN I ko nl s0 k = s → AW S (d + 9) YM_touched n n Q 4 [(2, .int (nI k)), (1, .int (nI s.1)), (0, .ref 95)] [] (m_row I 110 s.2) J R n := by
  intro m
  induction m with
  | zero =>
    intro k hk9 s es
    rw [show k = nh by omega] at es ⊢
    subst es
    refine a_iload_n 0 dM_touched_4 rfl rfl ?_
    refine a_aload_n 2 dM_touched_5 rfl rfl ?_
    refine a_geti dM_touched_6 fl12_259 rfl ly_95 (by omega) ?_
    rw [show (m_row I 110 ((toN I ko nl s0 nh).2)) 95 24 = (nI nh) from hh]
    refine a_icmp_geN (tgt := 45) dM_touched_9 (by decide) (by omega) (by omega) (fun _ => ?_) (fun c => False.elim (by omega))
    exact hx
  | succ m ih =>
    intro k hk9 s es
    refine a_iload_n 0 dM_touched_4 rfl rfl ?_
    refine a_aload_n 2 dM_touched_5 rfl rfl ?_
    refine a_geti dM_touched_6 fl12_259 rfl ly_95 (by omega) ?_
    rw [show (m_row I 110 s.2) 95 24 = (nI nh) from hh]
    refine a_icmp_geN (tgt := 45) dM_touched_9 (by decide) (by omega) (by omega) (fun c => False.elim (by omega)) (fun _ => ?_)
    refine a_iload_n 1 dM_touched_12 rfl rfl ?_
    refine a_aload_n 2 dM_touched_13 rfl rfl ?_
    refine a_iload_n 0 dM_touched_14 rfl rfl ?_
    refine a_callV (Q' := m_res (some (.int (baR I ko nl k s.2))) (m_row I 110 (baB I ko nl k s.2)) J R) (as := [.int (nI k)]) (st := [.int (nI s.1)]) dM_touched_15 ml12_476 rfl (Nat.le_of_ble_eq_true rfl) ly_95 rfl rfl (by decide) (by omega) (Nat.le_of_ble_eq_true rfl) rfl (Nat.le_refl _) (Nat.le_refl _) (c_M_bestAll hn hR ho hk hh hnh hl hnl hW (by omega)) (m_go ?_)
    show AW _ _ _ _ _ _ _ _ [.int (baR I ko nl k s.2), .int (nI s.1)] _ _ _ _
    refine a_aload_n 2 dM_touched_18 rfl rfl ?_
    refine a_iload_n 0 dM_touched_19 rfl rfl ?_
    refine a_aload_n 2 dM_touched_20 rfl rfl ?_
    refine a_iload_n 0 dM_touched_21 rfl rfl ?_
    refine a_callV (Q' := m_res (some (.int (nI (ltN (I 106) (nI k) nl)))) (m_row I 110 (baB I ko nl k s.2)) J R) (as := [.int (nI k)]) (st := [.int (nI k), .ref 95, .int (baR I ko nl k s.2), .int (nI s.1)]) dM_touched_22 ml12_362 rfl (Nat.le_of_ble_eq_true rfl) ly_95 rfl rfl (by decide) (by omega) (Nat.le_of_ble_eq_true rfl) rfl (Nat.le_refl _) (Nat.le_refl _) (c_M_lettersN (I := (m_row I 110 (baB I ko nl k s.2))) hn hR hl hnl) (m_go ?_)
    show AW _ _ _ _ _ _ _ _ [.int (nI (ltN (I 106) (nI k) nl)), .int (nI k), .ref 95, .int (baR I ko nl k s.2), .int (nI s.1)] _ _ _ _
    refine a_iconstN (a := 1) dM_touched_25 (by decide) ?_
    refine a_callV (Q' := m_res (some (.int (boR I ko nl k (ltN (I 106) (nI k) nl) 1 (baB I ko nl k s.2)))) (m_row I 110 (foN I ko nl (nI (ltN (I 106) (nI k) nl)) 1 (baB I ko nl k s.2) 1024)) J R) (as := [.int (nI k), .int (nI (ltN (I 106) (nI k) nl)), .int (nI 1)]) (st := [.int (baR I ko nl k s.2), .int (nI s.1)]) dM_touched_26 ml12_365 rfl (Nat.le_of_ble_eq_true rfl) ly_95 rfl rfl (by decide) (by omega) (Nat.le_of_ble_eq_true rfl) rfl (Nat.le_refl _) (Nat.le_refl _) (c_M_bestOf hn hR ho hk hh hnh hl hnl hW (by omega) (lt_lt hnl)) (m_go ?_)
    show AW _ _ _ _ _ _ _ _ [.int (boR I ko nl k (ltN (I 106) (nI k) nl) 1 (baB I ko nl k s.2)), .int (baR I ko nl k s.2), .int (nI s.1)] _ _ _ _
    refine a_icmp_eq (tgt := 36) dM_touched_29 (by decide) (fun c29 => ?_) (fun c29 => ?_)
    · refine a_iconstN (a := 0) dM_touched_36 (by decide) ?_
      refine a_iaddN (a := s.1) (b := 0) dM_touched_37 ?_
      refine a_istore_n (lv' := [(1, .int (nI (s.1 + 0))), (2, .int (nI k)), (0, .ref 95)]) dM_touched_38 rfl (by decide) rfl ?_
      refine a_iincN (lv' := [(2, .int (nI (k + 1))), (1, .int (nI (s.1 + 0))), (0, .ref 95)]) (j := 1) dM_touched_39 rfl (by decide) rfl ?_
      refine a_goto (tgt := 4) dM_touched_42 (by decide) ?_
      have e' : toN I ko nl s0 (k + 1) = ((s.1 + 0), (foN I ko nl (nI (ltN (I 106) (nI k) nl)) 1 (baB I ko nl k s.2) 1024)) := by
        show toNS I ko nl k (toN I ko nl s0 k) = _
        rw [es]
        unfold toNS
        rw [if_pos c29]
      exact ih (k + 1) (by omega) ((s.1 + 0), (foN I ko nl (nI (ltN (I 106) (nI k) nl)) 1 (baB I ko nl k s.2) 1024)) e'
    · refine a_iconstN (a := 1) dM_touched_32 (by decide) ?_
      refine a_goto (tgt := 37) dM_touched_33 (by decide) ?_
      refine a_iaddN (a := s.1) (b := 1) dM_touched_37 ?_
      refine a_istore_n (lv' := [(1, .int (nI (s.1 + 1))), (2, .int (nI k)), (0, .ref 95)]) dM_touched_38 rfl (by decide) rfl ?_
      refine a_iincN (lv' := [(2, .int (nI (k + 1))), (1, .int (nI (s.1 + 1))), (0, .ref 95)]) (j := 1) dM_touched_39 rfl (by decide) rfl ?_
      refine a_goto (tgt := 4) dM_touched_42 (by decide) ?_
      have e' : toN I ko nl s0 (k + 1) = ((s.1 + 1), (foN I ko nl (nI (ltN (I 106) (nI k) nl)) 1 (baB I ko nl k s.2) 1024)) := by
        show toNS I ko nl k (toN I ko nl s0 k) = _
        rw [es]
        unfold toNS
        rw [if_neg c29]
      exact ih (k + 1) (by omega) ((s.1 + 1), (foN I ko nl (nI (ltN (I 106) (nI k) nl)) 1 (baB I ko nl k s.2) 1024)) e'
theorem c_M_touched {S : Nat × (Nat → Int32)} {d n : Nat} {I : mI} {J : mJ} {R : mR} {ko nh nl : Nat} (hn : 122 ≤ n) (hR : m_fin R) (ho : I 95 23 = nI ko) (hk : ko < 7) (hh : I 95 24 = nI nh) (hnh : nh ≤ 6) (hl : I 95 25 = nI nl) (hnl : nl ≤ 10) (hW : WFk I ko) {B : Nat → Int32} : RUN S (d + 9) YM_touched [.ref 95] (m_row I 110 B) J R n (some (.int (nI (toN I ko nl (0, B) nh).1))) (m_row I 110 ((toN I ko nl (0, B) nh).2)) J R n := by
  show AW S _ YM_touched n n _ 0 [(0, .ref 95)] [] (m_row I 110 B) J R n
  refine a_iconstN (a := 0) dM_touched_0 (by decide) ?_
  refine a_istore_n (lv' := [(1, .int (nI 0)), (0, .ref 95)]) dM_touched_1 rfl (by decide) rfl ?_
  refine a_iconstN (a := 0) dM_touched_2 (by decide) ?_
  refine a_istore_n (lv' := [(2, .int (nI 0)), (1, .int (nI 0)), (0, .ref 95)]) dM_touched_3 rfl (by decide) rfl ?_
  refine l_toN (s0 := (0, B)) hn hR ho hk hh hnh hl hnl hW ?_ nh 0 (by omega) _ rfl
  refine a_iload_n 1 dM_touched_45 rfl rfl ?_
  exact a_iret dM_touched_46 rfl ⟨rfl, rfl, rfl, rfl⟩
def rkAS (I : mI) (ko nl : Nat) (k : Nat) (s : (Nat → Int32) × (Nat → Int32)) : (Nat → Int32) × (Nat → Int32) := ((baB I ko nl k s.1), (va_up s.2 k (baR I ko nl k s.1)))
def rkA (I : mI) (ko nl : Nat) (s0 : (Nat → Int32) × (Nat → Int32)) : Nat → (Nat → Int32) × (Nat → Int32)
  | 0 => s0
  | k + 1 => rkAS I ko nl k (rkA I ko nl s0 k)
theorem l_rkA {S : Nat × (Nat → Int32)} {d n : Nat} {I : mI} {J : mJ} {R : mR} {ko nh nl : Nat} (hn : 122 ≤ n) (hR : m_fin R) (ho : I 95 23 = nI ko) (hk : ko < 7) (hh : I 95 24 = nI nh) (hnh : nh ≤ 6) (hl : I 95 25 = nI nl) (hnl : nl ≤ 10) (hW : WFk I ko) {x : Int32}  {s0 : (Nat → Int32) × (Nat → Int32)} {Q : Option Value → mI → mJ → mR → Prop}  (hx : AW S (d + 9) YM_ranked n n Q 27 [(2, .int (nI nh)), (0, .ref 95), (1, .int x)] [] (m_row (m_row I 110 ((rkA I ko nl s0 nh).1)) 120 ((rkA I ko nl s0 nh).2)) J R n) : ∀ m k, k + m = nh → ∀ s : (Nat → Int32) × (Nat → Int32), rkA I ko nl s0 k = s → AW S (d + 9) YM_ranked n n Q 2 [(2, .int (nI k)), (0, .ref 95), (1, .int x)] [] (m_row (m_row I 110 s.1) 120 s.2) J R n := by
  intro m
  induction m with
  | zero =>
    intro k hk9 s es
    rw [show k = nh by omega] at es ⊢
    subst es
    refine a_iload_n 0 dM_ranked_2 rfl rfl ?_
    refine a_aload_n 1 dM_ranked_3 rfl rfl ?_
    refine a_geti dM_ranked_4 fl12_259 rfl ly_95 (by omega) ?_
    rw [show (m_row (m_row I 110 ((rkA I ko nl s0 nh).1)) 120 ((rkA I ko nl s0 nh).2)) 95 24 = (nI nh) from hh]
    refine a_icmp_geN (tgt := 27) dM_ranked_7 (by decide) (by omega) (by omega) (fun _ => ?_) (fun c => False.elim (by omega))
    exact hx
  | succ m ih =>
    intro k hk9 s es
    refine a_iload_n 0 dM_ranked_2 rfl rfl ?_
    refine a_aload_n 1 dM_ranked_3 rfl rfl ?_
    refine a_geti dM_ranked_4 fl12_259 rfl ly_95 (by omega) ?_
    rw [show (m_row (m_row I 110 s.1) 120 s.2) 95 24 = (nI nh) from hh]
    refine a_icmp_geN (tgt := 27) dM_ranked_7 (by decide) (by omega) (by omega) (fun c => False.elim (by omega)) (fun _ => ?_)
    refine a_aload_n 1 dM_ranked_10 rfl rfl ?_
    refine a_geta (r := 120) dM_ranked_11 fl12_84 rfl ly_95 (by omega) (rf_95_53 hR) ?_
    refine a_iload_n 0 dM_ranked_14 rfl rfl ?_
    refine a_aload_n 1 dM_ranked_15 rfl rfl ?_
    refine a_iload_n 0 dM_ranked_16 rfl rfl ?_
    refine a_callV (Q' := m_res (some (.int (baR I ko nl k s.1))) (m_row (m_row I 110 (baB I ko nl k s.1)) 120 s.2) J R) (as := [.int (nI k)]) (st := [.int (nI k), .ref 120]) dM_ranked_17 ml12_476 rfl (Nat.le_of_ble_eq_true rfl) ly_95 rfl rfl (by decide) (by omega) (Nat.le_of_ble_eq_true rfl) rfl (Nat.le_refl _) (Nat.le_refl _) (by have h := c_M_bestAll (S := S) (d := d) (n := n) (J := J) (R := R) (I := m_row I 120 s.2) (B := s.1) hn hR ho hk hh hnh hl hnl hW (h := k) (by omega); rw [m_row_c (a := 120) (b := 110) (by decide), m_row_c (a := 120) (b := 110) (by decide), baR_eq (I := I) (I' := m_row I 120 s.2) rfl rfl rfl, baB_eq (I := I) (I' := m_row I 120 s.2) rfl rfl rfl] at h; exact h) (m_go ?_)
    show AW _ _ _ _ _ _ _ _ [.int (baR I ko nl k s.1), .int (nI k), .ref 120] _ _ _ _
    refine a_iastN (a := k) dM_ranked_20 ly_120 (by omega) (by omega) (by decide) ?_
    rw [show m_up (m_row (m_row I 110 (baB I ko nl k s.1)) 120 s.2) 120 k (baR I ko nl k s.1) = (m_row (m_row I 110 (baB I ko nl k s.1)) 120 (va_up s.2 k (baR I ko nl k s.1))) from (by rw [m_up_r])]
    refine a_iincN (lv' := [(2, .int (nI (k + 1))), (0, .ref 95), (1, .int x)]) (j := 0) dM_ranked_21 rfl (by decide) rfl ?_
    refine a_goto (tgt := 2) dM_ranked_24 (by decide) ?_
    have e' : rkA I ko nl s0 (k + 1) = ((baB I ko nl k s.1), (va_up s.2 k (baR I ko nl k s.1))) := by
      show rkAS I ko nl k (rkA I ko nl s0 k) = _
      rw [es]
      unfold rkAS
      rfl
    exact ih (k + 1) (by omega) ((baB I ko nl k s.1), (va_up s.2 k (baR I ko nl k s.1))) e'
def rkNS (b : Nat → Int32) (t : Nat) (k : Nat) (s : Nat) : Nat := (if (b t) < (b k) then (s + 1) else (if (b k) = (b t) then (if t ≤ k then (s + 0) else (s + 1)) else (s + 0)))
def rkN (b : Nat → Int32) (t : Nat) (s0 : Nat) : Nat → Nat
  | 0 => s0
  | k + 1 => rkNS b t k (rkN b t s0 k)
theorem l_rkN {S : Nat × (Nat → Int32)} {d n : Nat} {I : mI} {J : mJ} {R : mR} {ko nh nl : Nat} (hn : 122 ≤ n) (hR : m_fin R) (ho : I 95 23 = nI ko) (hk : ko < 7) (hh : I 95 24 = nI nh) (hnh : nh ≤ 6) (hl : I 95 25 = nI nl) (hnl : nl ≤ 10) (hW : WFk I ko) {x : Int32} {t : Nat} (ht : t < nh) {B b : Nat → Int32}  {s0 : Nat} {Q : Option Value → mI → mJ → mR → Prop}  (hx : AW S (d + 9) YM_ranked n n Q 103 [(4, .int (nI nh)), (3, .int (nI (rkN b t s0 nh))), (0, .ref 95), (1, .int x), (2, .int (nI t))] [] (m_row (m_row I 110 B) 120 b) J R n) : ∀ m k, k + m = nh → ∀ s : Nat, rkN b t s0 k = s → AW S (d + 9) YM_ranked n n Q 42 [(4, .int (nI k)), (3, .int (nI s)), (0, .ref 95), (1, .int x), (2, .int (nI t))] [] (m_row (m_row I 110 B) 120 b) J R n := by
  intro m
  induction m with
  | zero =>
    intro k hk9 s es
    rw [show k = nh by omega] at es ⊢
    subst es
    refine a_iload 0 dM_ranked_42 rfl ?_
    refine a_aload_n 2 dM_ranked_44 rfl rfl ?_
    refine a_geti dM_ranked_45 fl12_259 rfl ly_95 (by omega) ?_
    rw [show (m_row (m_row I 110 B) 120 b) 95 24 = (nI nh) from hh]
    refine a_icmp_geN (tgt := 103) dM_ranked_48 (by decide) (by omega) (by omega) (fun _ => ?_) (fun c => False.elim (by omega))
    exact hx
  | succ m ih =>
    intro k hk9 s es
    refine a_iload 0 dM_ranked_42 rfl ?_
    refine a_aload_n 2 dM_ranked_44 rfl rfl ?_
    refine a_geti dM_ranked_45 fl12_259 rfl ly_95 (by omega) ?_
    rw [show (m_row (m_row I 110 B) 120 b) 95 24 = (nI nh) from hh]
    refine a_icmp_geN (tgt := 103) dM_ranked_48 (by decide) (by omega) (by omega) (fun c => False.elim (by omega)) (fun _ => ?_)
    refine a_iload_n 1 dM_ranked_51 rfl rfl ?_
    refine a_aload_n 2 dM_ranked_52 rfl rfl ?_
    refine a_geta (r := 120) dM_ranked_53 fl12_84 rfl ly_95 (by omega) (rf_95_53 hR) ?_
    refine a_iload 0 dM_ranked_56 rfl ?_
    refine a_ialdN (a := k) dM_ranked_58 ly_120 (by omega) (by omega) (by decide) ?_
    rw [show (m_row (m_row I 110 B) 120 b) 120 k = b k from rfl]
    refine a_aload_n 2 dM_ranked_59 rfl rfl ?_
    refine a_geta (r := 120) dM_ranked_60 fl12_84 rfl ly_95 (by omega) (rf_95_53 hR) ?_
    refine a_iload_n 4 dM_ranked_63 rfl rfl ?_
    refine a_ialdN (a := t) dM_ranked_64 ly_120 (by omega) (by omega) (by decide) ?_
    rw [show (m_row (m_row I 110 B) 120 b) 120 t = b t from rfl]
    refine a_icmp_gt (tgt := 90) dM_ranked_65 (by decide) (fun c65 => ?_) (fun c65 => ?_)
    · refine a_iconstN (a := 1) dM_ranked_90 (by decide) ?_
      refine a_goto (tgt := 95) dM_ranked_91 (by decide) ?_
      refine a_iaddN (a := s) (b := 1) dM_ranked_95 ?_
      refine a_istore_n (lv' := [(3, .int (nI (s + 1))), (4, .int (nI k)), (0, .ref 95), (1, .int x), (2, .int (nI t))]) dM_ranked_96 rfl (by decide) rfl ?_
      refine a_iincN (lv' := [(4, .int (nI (k + 1))), (3, .int (nI (s + 1))), (0, .ref 95), (1, .int x), (2, .int (nI t))]) (j := 1) dM_ranked_97 rfl (by decide) rfl ?_
      refine a_goto (tgt := 42) dM_ranked_100 (by decide) ?_
      have e' : rkN b t s0 (k + 1) = (s + 1) := by
        show rkNS b t k (rkN b t s0 k) = _
        rw [es]
        unfold rkNS
        rw [if_pos c65]
      exact ih (k + 1) (by omega) (s + 1) e'
    · refine a_aload_n 2 dM_ranked_68 rfl rfl ?_
      refine a_geta (r := 120) dM_ranked_69 fl12_84 rfl ly_95 (by omega) (rf_95_53 hR) ?_
      refine a_iload 0 dM_ranked_72 rfl ?_
      refine a_ialdN (a := k) dM_ranked_74 ly_120 (by omega) (by omega) (by decide) ?_
      rw [show (m_row (m_row I 110 B) 120 b) 120 k = b k from rfl]
      refine a_aload_n 2 dM_ranked_75 rfl rfl ?_
      refine a_geta (r := 120) dM_ranked_76 fl12_84 rfl ly_95 (by omega) (rf_95_53 hR) ?_
      refine a_iload_n 4 dM_ranked_79 rfl rfl ?_
      refine a_ialdN (a := t) dM_ranked_80 ly_120 (by omega) (by omega) (by decide) ?_
      rw [show (m_row (m_row I 110 B) 120 b) 120 t = b t from rfl]
      refine a_icmp_ne (tgt := 94) dM_ranked_81 (by decide) (fun c81 => ?_) (fun c81 => ?_)
      · refine a_iconstN (a := 0) dM_ranked_94 (by decide) ?_
        refine a_iaddN (a := s) (b := 0) dM_ranked_95 ?_
        refine a_istore_n (lv' := [(3, .int (nI (s + 0))), (4, .int (nI k)), (0, .ref 95), (1, .int x), (2, .int (nI t))]) dM_ranked_96 rfl (by decide) rfl ?_
        refine a_iincN (lv' := [(4, .int (nI (k + 1))), (3, .int (nI (s + 0))), (0, .ref 95), (1, .int x), (2, .int (nI t))]) (j := 1) dM_ranked_97 rfl (by decide) rfl ?_
        refine a_goto (tgt := 42) dM_ranked_100 (by decide) ?_
        have e' : rkN b t s0 (k + 1) = (s + 0) := by
          show rkNS b t k (rkN b t s0 k) = _
          rw [es]
          unfold rkNS
          rw [if_neg c65, if_neg c81]
        exact ih (k + 1) (by omega) (s + 0) e'
      · refine a_iload 0 dM_ranked_84 rfl ?_
        refine a_iload_n 4 dM_ranked_86 rfl rfl ?_
        refine a_icmp_geN (tgt := 94) dM_ranked_87 (by decide) (by omega) (by omega) (fun c87 => ?_) (fun c87 => ?_)
        · refine a_iconstN (a := 0) dM_ranked_94 (by decide) ?_
          refine a_iaddN (a := s) (b := 0) dM_ranked_95 ?_
          refine a_istore_n (lv' := [(3, .int (nI (s + 0))), (4, .int (nI k)), (0, .ref 95), (1, .int x), (2, .int (nI t))]) dM_ranked_96 rfl (by decide) rfl ?_
          refine a_iincN (lv' := [(4, .int (nI (k + 1))), (3, .int (nI (s + 0))), (0, .ref 95), (1, .int x), (2, .int (nI t))]) (j := 1) dM_ranked_97 rfl (by decide) rfl ?_
          refine a_goto (tgt := 42) dM_ranked_100 (by decide) ?_
          have e' : rkN b t s0 (k + 1) = (s + 0) := by
            show rkNS b t k (rkN b t s0 k) = _
            rw [es]
            unfold rkNS
            rw [if_neg c65, if_pos c81, if_pos (show t ≤ k by omega)]
          exact ih (k + 1) (by omega) (s + 0) e'
        · refine a_iconstN (a := 1) dM_ranked_90 (by decide) ?_
          refine a_goto (tgt := 95) dM_ranked_91 (by decide) ?_
          refine a_iaddN (a := s) (b := 1) dM_ranked_95 ?_
          refine a_istore_n (lv' := [(3, .int (nI (s + 1))), (4, .int (nI k)), (0, .ref 95), (1, .int x), (2, .int (nI t))]) dM_ranked_96 rfl (by decide) rfl ?_
          refine a_iincN (lv' := [(4, .int (nI (k + 1))), (3, .int (nI (s + 1))), (0, .ref 95), (1, .int x), (2, .int (nI t))]) (j := 1) dM_ranked_97 rfl (by decide) rfl ?_
          refine a_goto (tgt := 42) dM_ranked_100 (by decide) ?_
          have e' : rkN b t s0 (k + 1) = (s + 1) := by
            show rkNS b t k (rkN b t s0 k) = _
            rw [es]
            unfold rkNS
            rw [if_neg c65, if_pos c81, if_neg (show ¬ (t ≤ k) by omega)]
          exact ih (k + 1) (by omega) (s + 1) e'
