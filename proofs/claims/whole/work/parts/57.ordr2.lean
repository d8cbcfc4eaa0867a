def abNS (I : mI) (ko nl : Nat) (k : Nat) (s : Int32 × (Nat → Int32)) : Int32 × (Nat → Int32) := ((s.1 + (baR I ko nl k s.2)), (baB I ko nl k s.2))
def abN (I : mI) (ko nl : Nat) (s0 : Int32 × (Nat → Int32)) : Nat → Int32 × (Nat → Int32)
  | 0 => s0
  | k + 1 => abNS I ko nl k (abN I ko nl s0 k)
theorem l_abN {S : Nat × (Nat → Int32)} {d n : Nat} {I : mI} {J : mJ} {R : mR} {ko nh nl : Nat} (hn : 122 ≤ n) (hR : m_fin R) (ho : I 95 23 = nI ko) (hk : ko < 7) (hh : I 95 24 = nI nh) (hnh : nh ≤ 6) (hl : I 95 25 = nI nl) (hnl : nl ≤ 10) (hW : WFk I ko)  {s0 : Int32 × (Nat → Int32)} {Q : Option Value → mI → mJ → mR → Prop}  (hx : AW S (d + 9) YM_allBests n n Q 26 [(2, .int (nI nh)), (1, .int (abN I ko nl s0 nh).1), (0, .ref 95)] [] (m_row I 110 ((abN I ko nl s0 nh).2)) J R n) : ∀ m k, k + m = nh → ∀ s : Int32 × (Nat → Int32), abN I ko nl s0 k = s → AW S (d + 9) YM_allBests n n Q 4 [(2, .int (nI k)), (1, .int s.1), (0, .ref 95)] [] (m_row I 110 s.2) J R n := by
  intro m
  induction m with
  | zero =>
    intro k hk9 s es
    rw [show k = nh by omega] at es ⊢
    subst es
    refine a_iload_n 0 dM_allBests_4 rfl rfl ?_
    refine a_aload_n 2 dM_allBests_5 rfl rfl ?_
    refine a_geti dM_allBests_6 fl12_259 rfl ly_95 (by omega) ?_
    rw [show (m_row I 110 ((abN I ko nl s0 nh).2)) 95 24 = (nI nh) from hh]
    refine a_icmp_geN (tgt := 26) dM_allBests_9 (by decide) (by omega) (by omega) (fun _ => ?_) (fun c => False.elim (by omega))
    exact hx
  | succ m ih =>
    intro k hk9 s es
    refine a_iload_n 0 dM_allBests_4 rfl rfl ?_
    refine a_aload_n 2 dM_allBests_5 rfl rfl ?_
    refine a_geti dM_allBests_6 fl12_259 rfl ly_95 (by omega) ?_
    rw [show (m_row I 110 s.2) 95 24 = (nI nh) from hh]
    refine a_icmp_geN (tgt := 26) dM_allBests_9 (by decide) (by omega) (by omega) (fun c => False.elim (by omega)) (fun _ => ?_)
    refine a_iload_n 1 dM_allBests_12 rfl rfl ?_
    refine a_aload_n 2 dM_allBests_13 rfl rfl ?_
    refine a_iload_n 0 dM_allBests_14 rfl rfl ?_
    refine a_callV (Q' := m_res (some (.int (baR I ko nl k s.2))) (m_row I 110 (baB I ko nl k s.2)) J R) (as := [.int (nI k)]) (st := [.int s.1]) dM_allBests_15 ml12_476 rfl (Nat.le_of_ble_eq_true rfl) ly_95 rfl rfl (by decide) (by omega) (Nat.le_of_ble_eq_true rfl) rfl (Nat.le_refl _) (Nat.le_refl _) (c_M_bestAll hn hR ho hk hh hnh hl hnl hW (by omega)) (m_go ?_)
    show AW _ _ _ _ _ _ _ _ [.int (baR I ko nl k s.2), .int s.1] _ _ _ _
    refine a_iadd dM_allBests_18 ?_
    refine a_istore_n (lv' := [(1, .int (s.1 + (baR I ko nl k s.2))), (2, .int (nI k)), (0, .ref 95)]) dM_allBests_19 rfl (by decide) rfl ?_
    refine a_iincN (lv' := [(2, .int (nI (k + 1))), (1, .int (s.1 + (baR I ko nl k s.2))), (0, .ref 95)]) (j := 1) dM_allBests_20 rfl (by decide) rfl ?_
    refine a_goto (tgt := 4) dM_allBests_23 (by decide) ?_
    have e' : abN I ko nl s0 (k + 1) = ((s.1 + (baR I ko nl k s.2)), (baB I ko nl k s.2)) := by
      show abNS I ko nl k (abN I ko nl s0 k) = _
      rw [es]
      unfold abNS
      rfl
    exact ih (k + 1) (by omega) ((s.1 + (baR I ko nl k s.2)), (baB I ko nl k s.2)) e'
abbrev abT (I : mI) (ko nh nl : Nat) (B : Nat → Int32) : Int32 × (Nat → Int32) := abN I ko nl (nI 0, B) nh
theorem c_M_allBests {S : Nat × (Nat → Int32)} {d n : Nat} {I : mI} {J : mJ} {R : mR} {ko nh nl : Nat} (hn : 122 ≤ n) (hR : m_fin R) (ho : I 95 23 = nI ko) (hk : ko < 7) (hh : I 95 24 = nI nh) (hnh : nh ≤ 6) (hl : I 95 25 = nI nl) (hnl : nl ≤ 10) (hW : WFk I ko) {B : Nat → Int32} : RUN S (d + 9) YM_allBests [.ref 95] (m_row I 110 B) J R n (some (.int (abT I ko nh nl B).1)) (m_row I 110 ((abT I ko nh nl B).2)) J R n := by
  show AW S _ YM_allBests n n _ 0 [(0, .ref 95)] [] (m_row I 110 B) J R n
  refine a_iconstN (a := 0) dM_allBests_0 (by decide) ?_
  refine a_istore_n (lv' := [(1, .int (nI 0)), (0, .ref 95)]) dM_allBests_1 rfl (by decide) rfl ?_
  refine a_iconstN (a := 0) dM_allBests_2 (by decide) ?_
  refine a_istore_n (lv' := [(2, .int (nI 0)), (1, .int (nI 0)), (0, .ref 95)]) dM_allBests_3 rfl (by decide) rfl ?_
  refine l_abN (s0 := (nI 0, B)) hn hR ho hk hh hnh hl hnl hW ?_ nh 0 (by omega) _ rfl
  refine a_iload_n 1 dM_allBests_26 rfl rfl ?_
  exact a_iret dM_allBests_27 rfl ⟨rfl, rfl, rfl, rfl⟩
def toNS (I : mI) (ko nl : Nat) (k : Nat) (s : Nat × (Nat → Int32)) : Nat × (Nat → Int32) := (if (baR I ko nl k s.2) = (boR I ko nl k (ltN (I 106) (nI k) nl) 1 (baB I ko nl k s.2)) then ((s.1 + 0), (foN I ko nl (nI (ltN (I 106) (nI k) nl)) 1 (baB I ko nl k s.2) 1024)) else ((s.1 + 1), (foN I ko nl (nI (ltN (I 106) (nI k) nl)) 1 (baB I ko nl k s.2) 1024)))
def toN (I : mI) (ko nl : Nat) (s0 : Nat × (Nat → Int32)) : Nat → Nat × (Nat → Int32)
  | 0 => s0
  | k + 1 => toNS I ko nl k (toN I ko nl s0 k)
theorem l_toN {S : Nat × (Nat → Int32)} {d n : Nat} {I : mI} {J : mJ} {R : mR} {ko nh nl : Nat} (hn : 122 ≤ n) (hR : m_fin R) (ho : I 95 23 = nI ko) (hk : ko < 7) (hh : I 95 24 = nI nh) (hnh : nh ≤ 6) (hl : I 95 25 = nI nl) (hnl : nl ≤ 10) (hW : WFk I ko)  {s0 : Nat × (Nat → Int32)} {Q : Option Value → mI → mJ → mR → Prop}  (hx : AW S (d + 9) YM_touched n n Q 45 [(2, .int (nI nh)), (1, .int (nI (toN I ko nl s0 nh).1)), (0, .ref 95)] [] (m_row I 110 ((toN I ko nl s0 nh).2)) J R n) : ∀ m k, k + m = nh → ∀ s : Nat × (Nat → Int32), toN I ko nl s0 k = s → AW S (d + 9) YM_touched n n Q 4 [(2, .int (nI k)), (1, .int (nI s.1)), (0, .ref 95)] [] (m_row I 110 s.2) J R n := by
  intro m
  induction m with
  | zero =>
    intro k hk9 s es
    rw [show k = nh by omega] at es ⊢
    subst es
    refine a_iload_n 0 dM_touched_4 rfl rfl ?_
    refine a_aload_n 2 dM_touched_5 rfl rfl ?_
    refine a_geti dM_touched_6 fl12_259 rfl ly_95 (by omega) ?_
    rw [show (m_row I 110 ((toN I ko nl s0 nh).2)) 95 24 = (nI nh) from hh]
    refine a_icmp_geN (tgt := 45) dM_touched_9 (by decide) (by omega) (by omega) (fun _ => ?_) (fun c => False.elim (by omega))
    exact hx
  | succ m ih =>
    intro k hk9 s es
    refine a_iload_n 0 dM_touched_4 rfl rfl ?_
    refine a_aload_n 2 dM_touched_5 rfl rfl ?_
    refine a_geti dM_touched_6 fl12_259 rfl ly_95 (by omega) ?_
    rw [show (m_row I 110 s.2) 95 24 = (nI nh) from hh]
    refine a_icmp_geN (tgt := 45) dM_touched_9 (by decide) (by omega) (by omega) (fun c => False.elim (by omega)) (fun _ => ?_)
    refine a_iload_n 1 dM_touched_12 rfl rfl ?_
    refine a_aload_n 2 dM_touched_13 rfl rfl ?_
    refine a_iload_n 0 dM_touched_14 rfl rfl ?_
    refine a_callV (Q' := m_res (some (.int (baR I ko nl k s.2))) (m_row I 110 (baB I ko nl k s.2)) J R) (as := [.int (nI k)]) (st := [.int (nI s.1)]) dM_touched_15 ml12_476 rfl (Nat.le_of_ble_eq_true rfl) ly_95 rfl rfl (by decide) (by omega) (Nat.le_of_ble_eq_true rfl) rfl (Nat.le_refl _) (Nat.le_refl _) (c_M_bestAll hn hR ho hk hh hnh hl hnl hW (by omega)) (m_go ?_)
    show AW _ _ _ _ _ _ _ _ [.int (baR I ko nl k s.2), .int (nI s.1)] _ _ _ _
    refine a_aload_n 2 dM_touched_18 rfl rfl ?_
    refine a_iload_n 0 dM_touched_19 rfl rfl ?_
    refine a_aload_n 2 dM_touched_20 rfl rfl ?_
    refine a_iload_n 0 dM_touched_21 rfl rfl ?_
    refine a_callV (Q' := m_res (some (.int (nI (ltN (I 106) (nI k) nl)))) (m_row I 110 (baB I ko nl k s.2)) J R) (as := [.int (nI k)]) (st := [.int (nI k), .ref 95, .int (baR I ko nl k s.2), .int (nI s.1)]) dM_touched_22 ml12_362 rfl (Nat.le_of_ble_eq_true rfl) ly_95 rfl rfl (by decide) (by omega) (Nat.le_of_ble_eq_true rfl) rfl (Nat.le_refl _) (Nat.le_refl _) (c_M_lettersN (I := (m_row I 110 (baB I ko nl k s.2))) hn hR hl hnl) (m_go ?_)
    show AW _ _ _ _ _ _ _ _ [.int (nI (ltN (I 106) (nI k) nl)), .int (nI k), .ref 95, .int (baR I ko nl k s.2), .int (nI s.1)] _ _ _ _
    refine a_iconstN (a := 1) dM_touched_25 (by decide) ?_
    refine a_callV (Q' := m_res (some (.int (boR I ko nl k (ltN (I 106) (nI k) nl) 1 (baB I ko nl k s.2)))) (m_row I 110 (foN I ko nl (nI (ltN (I 106) (nI k) nl)) 1 (baB I ko nl k s.2) 1024)) J R) (as := [.int (nI k), .int (nI (ltN (I 106) (nI k) nl)), .int (nI 1)]) (st := [.int (baR I ko nl k s.2), .int (nI s.1)]) dM_touched_26 ml12_365 rfl (Nat.le_of_ble_eq_true rfl) ly_95 rfl rfl (by decide) (by omega) (Nat.le_of_ble_eq_true rfl) rfl (Nat.le_refl _) (Nat.le_refl _) (c_M_bestOf hn hR ho hk hh hnh hl hnl hW (by omega) (lt_lt hnl)) (m_go ?_)
    show AW _ _ _ _ _ _ _ _ [.int (boR I ko nl k (ltN (I 106) (nI k) nl) 1 (baB I ko nl k s.2)), .int (baR I ko nl k s.2), .int (nI s.1)] _ _ _ _
    refine a_icmp_eq (tgt := 36) dM_touched_29 (by decide) (fun c29 => ?_) (fun c29 => ?_)
    · refine a_iconstN (a := 0) dM_touched_36 (by decide) ?_
      refine a_iaddN (a := s.1) (b := 0) dM_touched_37 ?_
      refine a_istore_n (lv' := [(1, .int (nI (s.1 + 0))), (2, .int (nI k)), (0, .ref 95)]) dM_touched_38 rfl (by decide) rfl ?_
      refine a_iincN (lv' := [(2, .int (nI (k + 1))), (1, .int (nI (s.1 + 0))), (0, .ref 95)]) (j := 1) dM_touched_39 rfl (by decide) rfl ?_
      refine a_goto (tgt := 4) dM_touched_42 (by decide) ?_
      have e' : toN I ko nl s0 (k + 1) = ((s.1 + 0), (foN I ko nl (nI (ltN (I 106) (nI k) nl)) 1 (baB I ko nl k s.2) 1024)) := by
        show toNS I ko nl k (toN I ko nl s0 k) = _
        rw [es]
        unfold toNS
        rw [if_pos c29]
      exact ih (k + 1) (by omega) ((s.1 + 0), (foN I ko nl (nI (ltN (I 106) (nI k) nl)) 1 (baB I ko nl k s.2) 1024)) e'
    · refine a_iconstN (a := 1) dM_touched_32 (by decide) ?_
      refine a_goto (tgt := 37) dM_touched_33 (by decide) ?_
      refine a_iaddN (a := s.1) (b := 1) dM_touched_37 ?_
      refine a_istore_n (lv' := [(1, .int (nI (s.1 + 1))), (2, .int (nI k)), (0, .ref 95)]) dM_touched_38 rfl (by decide) rfl ?_
      refine a_iincN (lv' := [(2, .int (nI (k + 1))), (1, .int (nI (s.1 + 1))), (0, .ref 95)]) (j := 1) dM_touched_39 rfl (by decide) rfl ?_
      refine a_goto (tgt := 4) dM_touched_42 (by decide) ?_
      have e' : toN I ko nl s0 (k + 1) = ((s.1 + 1), (foN I ko nl (nI (ltN (I 106) (nI k) nl)) 1 (baB I ko nl k s.2) 1024)) := by
        show toNS I ko nl k (toN I ko nl s0 k) = _
        rw [es]
        unfold toNS
        rw [if_neg c29]
      exact ih (k + 1) (by omega) ((s.1 + 1), (foN I ko nl (nI (ltN (I 106) (nI k) nl)) 1 (baB I ko nl k s.2) 1024)) e'
theorem c_M_touched {S : Nat × (Nat → Int32)} {d n : Nat} {I : mI} {J : mJ} {R : mR} {ko nh nl : Nat} (hn : 122 ≤ n) (hR : m_fin R) (ho : I 95 23 = nI ko) (hk : ko < 7) (hh : I 95 24 = nI nh) (hnh : nh ≤ 6) (hl : I 95 25 = nI nl) (hnl : nl ≤ 10) (hW : WFk I ko) {B : Nat → Int32} : RUN S (d + 9) YM_touched [.ref 95] (m_row I 110 B) J R n (some (.int (nI (toN I ko nl (0, B) nh).1))) (m_row I 110 ((toN I ko nl (0, B) nh).2)) J R n := by
  show AW S _ YM_touched n n _ 0 [(0, .ref 95)] [] (m_row I 110 B) J R n
  refine a_iconstN (a := 0) dM_touched_0 (by decide) ?_
  refine a_istore_n (lv' := [(1, .int (nI 0)), (0, .ref 95)]) dM_touched_1 rfl (by decide) rfl ?_
  refine a_iconstN (a := 0) dM_touched_2 (by decide) ?_
  refine a_istore_n (lv' := [(2, .int (nI 0)), (1, .int (nI 0)), (0, .ref 95)]) dM_touched_3 rfl (by decide) rfl ?_
  refine l_toN (s0 := (0, B)) hn hR ho hk hh hnh hl hnl hW ?_ nh 0 (by omega) _ rfl
  refine a_iload_n 1 dM_touched_45 rfl rfl ?_
  exact a_iret dM_touched_46 rfl ⟨rfl, rfl, rfl, rfl⟩
def rkAS (I : mI) (ko nl : Nat) (k : Nat) (s : (Nat → Int32) × (Nat → Int32)) : (Nat → Int32) × (Nat → Int32) := ((baB I ko nl k s.1), (va_up s.2 k (baR I ko nl k s.1)))
def rkA (I : mI) (ko nl : Nat) (s0 : (Nat → Int32) × (Nat → Int32)) : Nat → (Nat → Int32) × (Nat → Int32)
  | 0 => s0
  | k + 1 => rkAS I ko nl k (rkA I ko nl s0 k)
theorem l_rkA {S : Nat × (Nat → Int32)} {d n : Nat} {I : mI} {J : mJ} {R : mR} {ko nh nl : Nat} (hn : 122 ≤ n) (hR : m_fin R) (ho : I 95 23 = nI ko) (hk : ko < 7) (hh : I 95 24 = nI nh) (hnh : nh ≤ 6) (hl : I 95 25 = nI nl) (hnl : nl ≤ 10) (hW : WFk I ko) {x : Int32}  {s0 : (Nat → Int32) × (Nat → Int32)} {Q : Option Value → mI → mJ → mR → Prop}  (hx : AW S (d + 9) YM_ranked n n Q 27 [(2, .int (nI nh)), (0, .ref 95), (1, .int x)] [] (m_row (m_row I 110 ((rkA I ko nl s0 nh).1)) 120 ((rkA I ko nl s0 nh).2)) J R n) : ∀ m k, k + m = nh → ∀ s : (Nat → Int32) × (Nat → Int32), rkA I ko nl s0 k = s → AW S (d + 9) YM_ranked n n Q 2 [(2, .int (nI k)), (0, .ref 95), (1, .int x)] [] (m_row (m_row I 110 s.1) 120 s.2) J R n := by
  intro m
  induction m with
  | zero =>
    intro k hk9 s es
    rw [show k = nh by omega] at es ⊢
    subst es
    refine a_iload_n 0 dM_ranked_2 rfl rfl ?_
    refine a_aload_n 1 dM_ranked_3 rfl rfl ?_
    refine a_geti dM_ranked_4 fl12_259 rfl ly_95 (by omega) ?_
    rw [show (m_row (m_row I 110 ((rkA I ko nl s0 nh).1)) 120 ((rkA I ko nl s0 nh).2)) 95 24 = (nI nh) from hh]
    refine a_icmp_geN (tgt := 27) dM_ranked_7 (by decide) (by omega) (by omega) (fun _ => ?_) (fun c => False.elim (by omega))
    exact hx
  | succ m ih =>
    intro k hk9 s es
    refine a_iload_n 0 dM_ranked_2 rfl rfl ?_
    refine a_aload_n 1 dM_ranked_3 rfl rfl ?_
    refine a_geti dM_ranked_4 fl12_259 rfl ly_95 (by omega) ?_
    rw [show (m_row (m_row I 110 s.1) 120 s.2) 95 24 = (nI nh) from hh]
    refine a_icmp_geN (tgt := 27) dM_ranked_7 (by decide) (by omega) (by omega) (fun c => False.elim (by omega)) (fun _ => ?_)
    refine a_aload_n 1 dM_ranked_10 rfl rfl ?_
    refine a_geta (r := 120) dM_ranked_11 fl12_84 rfl ly_95 (by omega) (rf_95_53 hR) ?_
    refine a_iload_n 0 dM_ranked_14 rfl rfl ?_
    refine a_aload_n 1 dM_ranked_15 rfl rfl ?_
    refine a_iload_n 0 dM_ranked_16 rfl rfl ?_
    refine a_callV (Q' := m_res (some (.int (baR I ko nl k s.1))) (m_row (m_row I 110 (baB I ko nl k s.1)) 120 s.2) J R) (as := [.int (nI k)]) (st := [.int (nI k), .ref 120]) dM_ranked_17 ml12_476 rfl (Nat.le_of_ble_eq_true rfl) ly_95 rfl rfl (by decide) (by omega) (Nat.le_of_ble_eq_true rfl) rfl (Nat.le_refl _) (Nat.le_refl _) (by have h := c_M_bestAll (S := S) (d := d) (n := n) (J := J) (R := R) (I := m_row I 120 s.2) (B := s.1) hn hR ho hk hh hnh hl hnl hW (h := k) (by omega); rw [m_row_c (a := 120) (b := 110) (by decide), m_row_c (a := 120) (b := 110) (by decide), baR_eq (I := I) (I' := m_row I 120 s.2) rfl rfl rfl, baB_eq (I := I) (I' := m_row I 120 s.2) rfl rfl rfl] at h; exact h) (m_go ?_)
    show AW _ _ _ _ _ _ _ _ [.int (baR I ko nl k s.1), .int (nI k), .ref 120] _ _ _ _
    refine a_iastN (a := k) dM_ranked_20 ly_120 (by omega) (by omega) (by decide) ?_
    rw [show m_up (m_row (m_row I 110 (baB I ko nl k s.1)) 120 s.2) 120 k (baR I ko nl k s.1) = (m_row (m_row I 110 (baB I ko nl k s.1)) 120 (va_up s.2 k (baR I ko nl k s.1))) from (by rw [m_up_r])]
    refine a_iincN (lv' := [(2, .int (nI (k + 1))), (0, .ref 95), (1, .int x)]) (j := 0) dM_ranked_21 rfl (by decide) rfl ?_
    refine a_goto (tgt := 2) dM_ranked_24 (by decide) ?_
    have e' : rkA I ko nl s0 (k + 1) = ((baB I ko nl k s.1), (va_up s.2 k (baR I ko nl k s.1))) := by
      show rkAS I ko nl k (rkA I ko nl s0 k) = _
      rw [es]
      unfold rkAS
      rfl
    exact ih (k + 1) (by omega) ((baB I ko nl k s.1), (va_up s.2 k (baR I ko nl k s.1))) e'
def rkNS (b : Nat → Int32) (t : Nat) (k : Nat) (s : Nat) : Nat := (if (b t) < (b k) then (s + 1) else (if (b k) = (b t) then (if t ≤ k then (s + 0) else (s + 1)) else (s + 0)))
def rkN (b : Nat → Int32) (t : Nat) (s0 : Nat) : Nat → Nat
  | 0 => s0
  | k + 1 => rkNS b t k (rkN b t s0 k)
theorem l_rkN {S : Nat × (Nat → Int32)} {d n : Nat} {I : mI} {J : mJ} {R : mR} {ko nh nl : Nat} (hn : 122 ≤ n) (hR : m_fin R) (ho : I 95 23 = nI ko) (hk : ko < 7) (hh : I 95 24 = nI nh) (hnh : nh ≤ 6) (hl : I 95 25 = nI nl) (hnl : nl ≤ 10) (hW : WFk I ko) {x : Int32} {t : Nat} (ht : t < nh) {B b : Nat → Int32}  {s0 : Nat} {Q : Option Value → mI → mJ → mR → Prop}  (hx : AW S (d + 9) YM_ranked n n Q 103 [(4, .int (nI nh)), (3, .int (nI (rkN b t s0 nh))), (0, .ref 95), (1, .int x), (2, .int (nI t))] [] (m_row (m_row I 110 B) 120 b) J R n) : ∀ m k, k + m = nh → ∀ s : Nat, rkN b t s0 k = s → AW S (d + 9) YM_ranked n n Q 42 [(4, .int (nI k)), (3, .int (nI s)), (0, .ref 95), (1, .int x), (2, .int (nI t))] [] (m_row (m_row I 110 B) 120 b) J R n := by
  intro m
  induction m with
  | zero =>
    intro k hk9 s es
    rw [show k = nh by omega] at es ⊢
    subst es
    refine a_iload 0 dM_ranked_42 rfl ?_
    refine a_aload_n 2 dM_ranked_44 rfl rfl ?_
    refine a_geti dM_ranked_45 fl12_259 rfl ly_95 (by omega) ?_
    rw [show (m_row (m_row I 110 B) 120 b) 95 24 = (nI nh) from hh]
    refine a_icmp_geN (tgt := 103) dM_ranked_48 (by decide) (by omega) (by omega) (fun _ => ?_) (fun c => False.elim (by omega))
    exact hx
  | succ m ih =>
    intro k hk9 s es
    refine a_iload 0 dM_ranked_42 rfl ?_
    refine a_aload_n 2 dM_ranked_44 rfl rfl ?_
    refine a_geti dM_ranked_45 fl12_259 rfl ly_95 (by omega) ?_
    rw [show (m_row (m_row I 110 B) 120 b) 95 24 = (nI nh) from hh]
    refine a_icmp_geN (tgt := 103) dM_ranked_48 (by decide) (by omega) (by omega) (fun c => False.elim (by omega)) (fun _ => ?_)
    refine a_iload_n 1 dM_ranked_51 rfl rfl ?_
    refine a_aload_n 2 dM_ranked_52 rfl rfl ?_
    refine a_geta (r := 120) dM_ranked_53 fl12_84 rfl ly_95 (by omega) (rf_95_53 hR) ?_
    refine a_iload 0 dM_ranked_56 rfl ?_
    refine a_ialdN (a := k) dM_ranked_58 ly_120 (by omega) (by omega) (by decide) ?_
    rw [show (m_row (m_row I 110 B) 120 b) 120 k = b k from rfl]
    refine a_aload_n 2 dM_ranked_59 rfl rfl ?_
    refine a_geta (r := 120) dM_ranked_60 fl12_84 rfl ly_95 (by omega) (rf_95_53 hR) ?_
    refine a_iload_n 4 dM_ranked_63 rfl rfl ?_
    refine a_ialdN (a := t) dM_ranked_64 ly_120 (by omega) (by omega) (by decide) ?_
    rw [show (m_row (m_row I 110 B) 120 b) 120 t = b t from rfl]
    refine a_icmp_gt (tgt := 90) dM_ranked_65 (by decide) (fun c65 => ?_) (fun c65 => ?_)
    · refine a_iconstN (a := 1) dM_ranked_90 (by decide) ?_
      refine a_goto (tgt := 95) dM_ranked_91 (by decide) ?_
      refine a_iaddN (a := s) (b := 1) dM_ranked_95 ?_
      refine a_istore_n (lv' := [(3, .int (nI (s + 1))), (4, .int (nI k)), (0, .ref 95), (1, .int x), (2, .int (nI t))]) dM_ranked_96 rfl (by decide) rfl ?_
      refine a_iincN (lv' := [(4, .int (nI (k + 1))), (3, .int (nI (s + 1))), (0, .ref 95), (1, .int x), (2, .int (nI t))]) (j := 1) dM_ranked_97 rfl (by decide) rfl ?_
      refine a_goto (tgt := 42) dM_ranked_100 (by decide) ?_
      have e' : rkN b t s0 (k + 1) = (s + 1) := by
        show rkNS b t k (rkN b t s0 k) = _
        rw [es]
        unfold rkNS
        rw [if_pos c65]
      exact ih (k + 1) (by omega) (s + 1) e'
    · refine a_aload_n 2 dM_ranked_68 rfl rfl ?_
      refine a_geta (r := 120) dM_ranked_69 fl12_84 rfl ly_95 (by omega) (rf_95_53 hR) ?_
      refine a_iload 0 dM_ranked_72 rfl ?_
      refine a_ialdN (a := k) dM_ranked_74 ly_120 (by omega) (by omega) (by decide) ?_
      rw [show (m_row (m_row I 110 B) 120 b) 120 k = b k from rfl]
      refine a_aload_n 2 dM_ranked_75 rfl rfl ?_
      refine a_geta (r := 120) dM_ranked_76 fl12_84 rfl ly_95 (by omega) (rf_95_53 hR) ?_
      refine a_iload_n 4 dM_ranked_79 rfl rfl ?_
      refine a_ialdN (a := t) dM_ranked_80 ly_120 (by omega) (by omega) (by decide) ?_
      rw [show (m_row (m_row I 110 B) 120 b) 120 t = b t from rfl]
      refine a_icmp_ne (tgt := 94) dM_ranked_81 (by decide) (fun c81 => ?_) (fun c81 => ?_)
      · refine a_iconstN (a := 0) dM_ranked_94 (by decide) ?_
        refine a_iaddN (a := s) (b := 0) dM_ranked_95 ?_
        refine a_istore_n (lv' := [(3, .int (nI (s + 0))), (4, .int (nI k)), (0, .ref 95), (1, .int x), (2, .int (nI t))]) dM_ranked_96 rfl (by decide) rfl ?_
        refine a_iincN (lv' := [(4, .int (nI (k + 1))), (3, .int (nI (s + 0))), (0, .ref 95), (1, .int x), (2, .int (nI t))]) (j := 1) dM_ranked_97 rfl (by decide) rfl ?_
        refine a_goto (tgt := 42) dM_ranked_100 (by decide) ?_
        have e' : rkN b t s0 (k + 1) = (s + 0) := by
          show rkNS b t k (rkN b t s0 k) = _
          rw [es]
          unfold rkNS
          rw [if_neg c65, if_neg c81]
        exact ih (k + 1) (by omega) (s + 0) e'
      · refine a_iload 0 dM_ranked_84 rfl ?_
        refine a_iload_n 4 dM_ranked_86 rfl rfl ?_
        refine a_icmp_geN (tgt := 94) dM_ranked_87 (by decide) (by omega) (by omega) (fun c87 => ?_) (fun c87 => ?_)
        · refine a_iconstN (a := 0) dM_ranked_94 (by decide) ?_
          refine a_iaddN (a := s) (b := 0) dM_ranked_95 ?_
          refine a_istore_n (lv' := [(3, .int (nI (s + 0))), (4, .int (nI k)), (0, .ref 95), (1, .int x), (2, .int (nI t))]) dM_ranked_96 rfl (by decide) rfl ?_
          refine a_iincN (lv' := [(4, .int (nI (k + 1))), (3, .int (nI (s + 0))), (0, .ref 95), (1, .int x), (2, .int (nI t))]) (j := 1) dM_ranked_97 rfl (by decide) rfl ?_
          refine a_goto (tgt := 42) dM_ranked_100 (by decide) ?_
          have e' : rkN b t s0 (k + 1) = (s + 0) := by
            show rkNS b t k (rkN b t s0 k) = _
            rw [es]
            unfold rkNS
            rw [if_neg c65, if_pos c81, if_pos (show t ≤ k by omega)]
          exact ih (k + 1) (by omega) (s + 0) e'
        · refine a_iconstN (a := 1) dM_ranked_90 (by decide) ?_
          refine a_goto (tgt := 95) dM_ranked_91 (by decide) ?_
          refine a_iaddN (a := s) (b := 1) dM_ranked_95 ?_
          refine a_istore_n (lv' := [(3, .int (nI (s + 1))), (4, .int (nI k)), (0, .ref 95), (1, .int x), (2, .int (nI t))]) dM_ranked_96 rfl (by decide) rfl ?_
          refine a_iincN (lv' := [(4, .int (nI (k + 1))), (3, .int (nI (s + 1))), (0, .ref 95), (1, .int x), (2, .int (nI t))]) (j := 1) dM_ranked_97 rfl (by decide) rfl ?_
          refine a_goto (tgt := 42) dM_ranked_100 (by decide) ?_
          have e' : rkN b t s0 (k + 1) = (s + 1) := by
            show rkNS b t k (rkN b t s0 k) = _
            rw [es]
            unfold rkNS
            rw [if_neg c65, if_pos c81, if_neg (show ¬ (t ≤ k) by omega)]
          exact ih (k + 1) (by omega) (s + 1) e'
theorem l_rkF {S : Nat × (Nat → Int32)} {d n : Nat} {I : mI} {J : mJ} {R : mR} {ko nh nl : Nat} (hn : 122 ≤ n) (hR : m_fin R) (ho : I 95 23 = nI ko) (hk : ko < 7) (hh : I 95 24 = nI nh) (hnh : nh ≤ 6) (hl : I 95 25 = nI nl) (hnl : nl ≤ 10) (hW : WFk I ko) {x : Int32} {B b : Nat → Int32}  {Q : Option Value → mI → mJ → mR → Prop} (h0 : ∀ k, k < nh → ¬ (¬ nI (rkN b k 0 nh) = x) → (∀ j, j < k → ¬ nI (rkN b j 0 nh) = x) → Q (some (.int (nI k))) (m_row (m_row I 110 B) 120 b) J R) (hx : (∀ k, k < nh → ¬ nI (rkN b k 0 nh) = x) → AW S (d + 9) YM_ranked n n Q 116 [(2, .int (nI nh)), (0, .ref 95), (1, .int x)] [] (m_row (m_row I 110 B) 120 b) J R n) : ∀ m k, k + m = nh → (∀ j, j < k → ¬ nI (rkN b j 0 nh) = x) → AW S (d + 9) YM_ranked n n Q 29 [(2, .int (nI k)), (0, .ref 95), (1, .int x)] [] (m_row (m_row I 110 B) 120 b) J R n := by
  intro m
  induction m with
  | zero =>
    intro k hk9 hp
    rw [show k = nh by omega] at hp ⊢
    refine a_iload_n 0 dM_ranked_29 rfl rfl ?_
    refine a_aload_n 1 dM_ranked_30 rfl rfl ?_
    refine a_geti dM_ranked_31 fl12_259 rfl ly_95 (by omega) ?_
    rw [show (m_row (m_row I 110 B) 120 b) 95 24 = (nI nh) from hh]
    refine a_icmp_geN (tgt := 116) dM_ranked_34 (by decide) (by omega) (by omega) (fun _ => ?_) (fun c => False.elim (by omega))
    exact hx hp
  | succ m ih =>
    intro k hk9 hp
    refine a_iload_n 0 dM_ranked_29 rfl rfl ?_
    refine a_aload_n 1 dM_ranked_30 rfl rfl ?_
    refine a_geti dM_ranked_31 fl12_259 rfl ly_95 (by omega) ?_
    rw [show (m_row (m_row I 110 B) 120 b) 95 24 = (nI nh) from hh]
    refine a_icmp_geN (tgt := 116) dM_ranked_34 (by decide) (by omega) (by omega) (fun c => False.elim (by omega)) (fun _ => ?_)
    refine a_iconstN (a := 0) dM_ranked_37 (by decide) ?_
    refine a_istore_n (lv' := [(3, .int (nI 0)), (2, .int (nI k)), (0, .ref 95), (1, .int x)]) dM_ranked_38 rfl (by decide) rfl ?_
    refine a_iconstN (a := 0) dM_ranked_39 (by decide) ?_
    refine a_istore (lv' := [(4, .int (nI 0)), (3, .int (nI 0)), (2, .int (nI k)), (0, .ref 95), (1, .int x)]) dM_ranked_40 (by decide) rfl ?_
    refine a_locs (lv' := [(4, .int (nI 0)), (3, .int (nI 0)), (0, .ref 95), (1, .int x), (2, .int (nI k))]) [0, 1, 3, 4, 2] rfl ?_
    refine l_rkN (s0 := 0) hn hR ho hk hh hnh hl hnl hW (x := x) (t := k) (by omega) ?_ nh 0 (by omega) _ rfl
    refine a_iload_n 1 dM_ranked_103 rfl rfl ?_
    refine a_iload_n 3 dM_ranked_104 rfl rfl ?_
    refine a_icmp_ne (tgt := 110) dM_ranked_105 (by decide) (fun c105 => ?_) (fun c105 => ?_)
    · refine a_iincN (lv' := [(2, .int (nI (k + 1))), (4, .int (nI nh)), (3, .int (nI (rkN b k 0 nh))), (0, .ref 95), (1, .int x)]) (j := 4) dM_ranked_110 rfl (by decide) rfl ?_
      refine a_goto (tgt := 29) dM_ranked_113 (by decide) ?_
      refine a_locs (lv' := [(2, .int (nI (k + 1))), (0, .ref 95), (1, .int x)]) [0, 3, 4] rfl ?_
      exact ih (k + 1) (by omega) (fun j hj => by
        rcases Nat.lt_or_eq_of_le (Nat.le_of_lt_succ hj) with h1 | h1
        · exact hp j h1
        · subst h1; exact c105)
    · refine a_iload_n 4 dM_ranked_108 rfl rfl ?_
      exact a_iret dM_ranked_109 rfl (h0 k (by omega) (fun q => q c105) hp)
/-- the first house of a rank -/
def rkV (b : Nat → Int32) (nh : Nat) (x : Int32) (v : Int32) : Prop := (∃ k, k < nh ∧ nI (rkN b k 0 nh) = x ∧ (∀ j, j < k → ¬ nI (rkN b j 0 nh) = x) ∧ v = nI k) ∨ ((∀ k, k < nh → ¬ nI (rkN b k 0 nh) = x) ∧ v = -1)
theorem b_M_ranked {S : Nat × (Nat → Int32)} {d n : Nat} {I : mI} {J : mJ} {R : mR} {ko nh nl : Nat} (hn : 122 ≤ n) (hR : m_fin R) (ho : I 95 23 = nI ko) (hk : ko < 7) (hh : I 95 24 = nI nh) (hnh : nh ≤ 6) (hl : I 95 25 = nI nl) (hnl : nl ≤ 10) (hW : WFk I ko) {x : Int32} {B b : Nat → Int32}  {Q : Option Value → mI → mJ → mR → Prop} (hQ : ∀ v, rkV (rkA I ko nl (B, b) nh).2 nh x v → Q (some (.int v)) (m_row (m_row I 110 ((rkA I ko nl (B, b) nh).1)) 120 ((rkA I ko nl (B, b) nh).2)) J R) : AW S (d + 9) YM_ranked n n Q 0 [(0, .ref 95), (1, .int x)] [] (m_row (m_row I 110 B) 120 b) J R n := by
  refine a_iconstN (a := 0) dM_ranked_0 (by decide) ?_
  refine a_istore_n (lv' := [(2, .int (nI 0)), (0, .ref 95), (1, .int x)]) dM_ranked_1 rfl (by decide) rfl ?_
  refine l_rkA (s0 := (B, b)) hn hR ho hk hh hnh hl hnl hW (x := x) ?_ nh 0 (by omega) _ rfl
  refine a_iconstN (a := 0) dM_ranked_27 (by decide) ?_
  refine a_istore_n (lv' := [(2, .int (nI 0)), (0, .ref 95), (1, .int x)]) dM_ranked_28 rfl (by decide) rfl ?_
  refine a_locs (lv' := [(2, .int (nI 0)), (0, .ref 95), (1, .int x)]) [0, 1, 2] rfl ?_
  refine l_rkF hn hR ho hk hh hnh hl hnl hW (fun k hk2 hp hj => hQ _ (Or.inl ⟨k, hk2, Classical.not_not.mp hp, hj, rfl⟩)) (fun hp => ?_) nh 0 (by omega) (fun j hj => absurd hj (Nat.not_lt_zero _))
  refine a_iconst (v := -1) dM_ranked_116 (by decide) ?_
  exact a_iret dM_ranked_117 rfl (hQ _ (Or.inr ⟨hp, rfl⟩))
abbrev lwI (I : mI) (x : Int32) : mI := m_row I 95 (va_up (I 95) 30 x)
def sgNS (I : mI) (ko nh nl : Nat) (nw : Int32) (k : Nat) (s : Int32 × Int32 × Int32 × (Nat → Int32)) : Int32 × Int32 × Int32 × (Nat → Int32) := (if (oR I ko (59 + k)) = (-1) then (if (-1) ≤ s.2.1 then (s.1, (f_gr s.2.1 (-1)), (nI k), s.2.2.2) else ((nI (100 + k)), (f_gr s.2.1 (-1)), (nI k), s.2.2.2)) else (if 0 ≤ ((abT (lwI I (nI k)) ko nh nl s.2.2.2).1 - nw) then (if ((abT (lwI I (nI k)) ko nh nl s.2.2.2).1 - nw) ≤ s.2.1 then (s.1, (f_gr s.2.1 ((abT (lwI I (nI k)) ko nh nl s.2.2.2).1 - nw)), (nI k), ((abT (lwI I (nI k)) ko nh nl s.2.2.2).2)) else ((nI (100 + k)), (f_gr s.2.1 ((abT (lwI I (nI k)) ko nh nl s.2.2.2).1 - nw)), (nI k), ((abT (lwI I (nI k)) ko nh nl s.2.2.2).2))) else (if (-((abT (lwI I (nI k)) ko nh nl s.2.2.2).1 - nw)) ≤ s.2.1 then (s.1, (f_gr s.2.1 (-((abT (lwI I (nI k)) ko nh nl s.2.2.2).1 - nw))), (nI k), ((abT (lwI I (nI k)) ko nh nl s.2.2.2).2)) else ((nI (100 + k)), (f_gr s.2.1 (-((abT (lwI I (nI k)) ko nh nl s.2.2.2).1 - nw))), (nI k), ((abT (lwI I (nI k)) ko nh nl s.2.2.2).2)))))
def sgN (I : mI) (ko nh nl : Nat) (nw : Int32) (s0 : Int32 × Int32 × Int32 × (Nat → Int32)) : Nat → Int32 × Int32 × Int32 × (Nat → Int32)
  | 0 => s0
  | k + 1 => sgNS I ko nh nl nw k (sgN I ko nh nl nw s0 k)
theorem l_sgN {S : Nat × (Nat → Int32)} {d n : Nat} {I : mI} {J : mJ} {R : mR} {ko nh nl : Nat} (hn : 122 ≤ n) (hR : m_fin R) (ho : I 95 23 = nI ko) (hk : ko < 7) (hh : I 95 24 = nI nh) (hnh : nh ≤ 6) (hl : I 95 25 = nI nl) (hnl : nl ≤ 10) (hW : WFk I ko) {nw u : Int32}  {s0 : Int32 × Int32 × Int32 × (Nat → Int32)} {Q : Option Value → mI → mJ → mR → Prop}  (hx : AW S (d + 10) YM_strongest n n Q 129 [(6, .int (nI 16)), (4, .int (sgN I ko nh nl nw s0 16).1), (5, .int (sgN I ko nh nl nw s0 16).2.1), (0, .ref 95), (2, .int u), (3, .int nw)] [] (m_row (m_row I 95 (va_up (I 95) 30 ((sgN I ko nh nl nw s0 16).2.2.1))) 110 ((sgN I ko nh nl nw s0 16).2.2.2)) J R n) : ∀ m k, k + m = 16 → ∀ s : Int32 × Int32 × Int32 × (Nat → Int32), sgN I ko nh nl nw s0 k = s → AW S (d + 10) YM_strongest n n Q 29 [(6, .int (nI k)), (4, .int s.1), (5, .int s.2.1), (0, .ref 95), (2, .int u), (3, .int nw)] [] (m_row (m_row I 95 (va_up (I 95) 30 s.2.2.1)) 110 s.2.2.2) J R n := by
  intro m
  induction m with
  | zero =>
    intro k hk9 s es
    rw [show k = 16 by omega] at es ⊢
    subst es
    refine a_iload 0 dM_strongest_29 rfl ?_
    refine a_bipushN (a := 16) dM_strongest_31 (by decide) ?_
    refine a_icmp_geN (tgt := 129) dM_strongest_33 (by decide) (by omega) (by omega) (fun _ => ?_) (fun c => False.elim (by omega))
    exact hx
  | succ m ih =>
    intro k hk9 s es
    refine a_iload 0 dM_strongest_29 rfl ?_
    refine a_bipushN (a := 16) dM_strongest_31 (by decide) ?_
    refine a_icmp_geN (tgt := 129) dM_strongest_33 (by decide) (by omega) (by omega) (fun c => False.elim (by omega)) (fun _ => ?_)
    refine a_aload_n 3 dM_strongest_36 rfl rfl ?_
    refine a_iload 0 dM_strongest_37 rfl ?_
    refine a_puti dM_strongest_39 fl12_265 rfl ly_95 (by omega) ?_
    rw [show m_up (m_row (m_row I 95 (va_up (I 95) 30 s.2.2.1)) 110 s.2.2.2) 95 30 (nI k) = (m_row (m_row I 95 (va_up (I 95) 30 (nI k))) 110 s.2.2.2) from (by rw [m_up_comm (by decide), m_up_r, show va_up (va_up (I 95) 30 s.2.2.1) 30 (nI k) = (va_up (I 95) 30 (nI k)) from va_uu])]
    refine a_aload_n 3 dM_strongest_42 rfl rfl ?_
    refine a_bipushN (a := 59) dM_strongest_43 (by decide) ?_
    refine a_iload 0 dM_strongest_45 rfl ?_
    refine a_iaddN (a := 59) (b := k) dM_strongest_47 ?_
    refine a_callV (Q' := m_res (some (.int (oR I ko (59 + k)))) (m_row (m_row I 95 (va_up (I 95) 30 (nI k))) 110 s.2.2.2) J R) (as := [.int (nI (59 + k))]) (st := []) dM_strongest_48 ml12_255 rfl (Nat.le_of_ble_eq_true rfl) ly_95 rfl rfl (by decide) (by omega) (Nat.le_of_ble_eq_true rfl) rfl (Nat.le_refl _) (Nat.le_refl _) (c_M_of hn hR (show (m_row (m_row I 95 (va_up (I 95) 30 (nI k))) 110 s.2.2.2) 95 23 = nI ko from ho) (by omega)) (m_go ?_)
    show AW _ _ _ _ _ _ _ _ [.int (oR I ko (59 + k))] _ _ _ _
    refine a_iconst (v := -1) dM_strongest_51 (by decide) ?_
    refine a_icmp_ne (tgt := 59) dM_strongest_52 (by decide) (fun c52 => ?_) (fun c52 => ?_)
    · refine a_aload_n 3 dM_strongest_59 rfl rfl ?_
      refine a_callV (Q' := m_res (some (.int (abT (lwI I (nI k)) ko nh nl s.2.2.2).1)) (m_row (m_row I 95 (va_up (I 95) 30 (nI k))) 110 ((abT (lwI I (nI k)) ko nh nl s.2.2.2).2)) J R) (as := []) (st := []) dM_strongest_60 ml12_479 rfl (Nat.le_of_ble_eq_true rfl) ly_95 rfl rfl (by decide) (by omega) (Nat.le_of_ble_eq_true rfl) rfl (Nat.le_refl _) (Nat.le_refl _) (c_M_allBests (I := (m_row I 95 (va_up (I 95) 30 (nI k)))) hn hR ho hk hh hnh hl hnl hW) (m_go ?_)
      show AW _ _ _ _ _ _ _ _ [.int (abT (lwI I (nI k)) ko nh nl s.2.2.2).1] _ _ _ _
      refine a_iload_n 5 dM_strongest_63 rfl rfl ?_
      refine a_isub dM_strongest_64 ?_
      refine a_istore (lv' := [(7, .int ((abT (lwI I (nI k)) ko nh nl s.2.2.2).1 - nw)), (6, .int (nI k)), (4, .int s.1), (5, .int s.2.1), (0, .ref 95), (2, .int u), (3, .int nw)]) dM_strongest_65 (by decide) rfl ?_
      refine a_aload_n 4 dM_strongest_67 rfl rfl ?_
      refine a_bipushN (a := 59) dM_strongest_68 (by decide) ?_
      refine a_iload 1 dM_strongest_70 rfl ?_
      refine a_iaddN (a := 59) (b := k) dM_strongest_72 ?_
      refine a_callV (Q' := m_res (some (.int (oR I ko (59 + k)))) (m_row (m_row I 95 (va_up (I 95) 30 (nI k))) 110 ((abT (lwI I (nI k)) ko nh nl s.2.2.2).2)) J R) (as := [.int (nI (59 + k))]) (st := []) dM_strongest_73 ml12_255 rfl (Nat.le_of_ble_eq_true rfl) ly_95 rfl rfl (by decide) (by omega) (Nat.le_of_ble_eq_true rfl) rfl (Nat.le_refl _) (Nat.le_refl _) (c_M_of hn hR (show (m_row (m_row I 95 (va_up (I 95) 30 (nI k))) 110 ((abT (lwI I (nI k)) ko nh nl s.2.2.2).2)) 95 23 = nI ko from ho) (by omega)) (m_go ?_)
      show AW _ _ _ _ _ _ _ _ [.int (oR I ko (59 + k))] _ _ _ _
      refine a_iconst (v := -1) dM_strongest_76 (by decide) ?_
      refine a_icmp_eq (tgt := 91) dM_strongest_77 (by decide) (fun c => False.elim (c52 c)) (fun _ => ?_)
      refine a_iload 0 dM_strongest_80 rfl ?_
      refine a_if_ge (tgt := 91) dM_strongest_82 (by decide) (fun c82 => ?_) (fun c82 => ?_)
      · refine a_iload 0 dM_strongest_91 rfl ?_
        refine a_istore (lv' := [(7, .int ((abT (lwI I (nI k)) ko nh nl s.2.2.2).1 - nw)), (6, .int (nI k)), (4, .int s.1), (5, .int s.2.1), (0, .ref 95), (2, .int u), (3, .int nw)]) dM_strongest_93 (by decide) rfl ?_
        refine a_iload 0 dM_strongest_95 rfl ?_
        refine a_iload 3 dM_strongest_97 rfl ?_
        refine a_icmp_le (tgt := 110) dM_strongest_99 (by decide) (fun c99 => ?_) (fun c99 => ?_)
        · refine a_iload 2 dM_strongest_110 rfl ?_
          refine a_istore (lv' := [(4, .int s.1), (7, .int ((abT (lwI I (nI k)) ko nh nl s.2.2.2).1 - nw)), (6, .int (nI k)), (5, .int s.2.1), (0, .ref 95), (2, .int u), (3, .int nw)]) dM_strongest_112 (by decide) rfl ?_
          refine a_iload 3 dM_strongest_114 rfl ?_
          refine a_iload 1 dM_strongest_116 rfl ?_
          refine a_callS (Q' := m_res (some (.int (f_gr s.2.1 ((abT (lwI I (nI k)) ko nh nl s.2.2.2).1 - nw)))) (m_row (m_row I 95 (va_up (I 95) 30 (nI k))) 110 ((abT (lwI I (nI k)) ko nh nl s.2.2.2).2)) J R) (as := [.int s.2.1, .int ((abT (lwI I (nI k)) ko nh nl s.2.2.2).1 - nw)]) (st := []) dM_strongest_118 ml12_167 rfl (Nat.le_of_ble_eq_true rfl) (Nat.le_of_ble_eq_true rfl) rfl (Nat.le_refl _) (Nat.le_refl _) c_M_greater (m_go ?_)
          show AW _ _ _ _ _ _ _ _ [.int (f_gr s.2.1 ((abT (lwI I (nI k)) ko nh nl s.2.2.2).1 - nw))] _ _ _ _
          refine a_istore (lv' := [(5, .int (f_gr s.2.1 ((abT (lwI I (nI k)) ko nh nl s.2.2.2).1 - nw))), (4, .int s.1), (7, .int ((abT (lwI I (nI k)) ko nh nl s.2.2.2).1 - nw)), (6, .int (nI k)), (0, .ref 95), (2, .int u), (3, .int nw)]) dM_strongest_121 (by decide) rfl ?_
          refine a_iincN (lv' := [(6, .int (nI (k + 1))), (5, .int (f_gr s.2.1 ((abT (lwI I (nI k)) ko nh nl s.2.2.2).1 - nw))), (4, .int s.1), (7, .int ((abT (lwI I (nI k)) ko nh nl s.2.2.2).1 - nw)), (0, .ref 95), (2, .int u), (3, .int nw)]) (j := 3) dM_strongest_123 rfl (by decide) rfl ?_
          refine a_goto (tgt := 29) dM_strongest_126 (by decide) ?_
          have e' : sgN I ko nh nl nw s0 (k + 1) = (s.1, (f_gr s.2.1 ((abT (lwI I (nI k)) ko nh nl s.2.2.2).1 - nw)), (nI k), ((abT (lwI I (nI k)) ko nh nl s.2.2.2).2)) := by
            show sgNS I ko nh nl nw k (sgN I ko nh nl nw s0 k) = _
            rw [es]
            unfold sgNS
            rw [if_neg c52, if_pos c82, if_pos c99]
          refine a_locs (lv' := [(6, .int (nI (k + 1))), (4, .int s.1), (5, .int (f_gr s.2.1 ((abT (lwI I (nI k)) ko nh nl s.2.2.2).1 - nw))), (0, .ref 95), (2, .int u), (3, .int nw)]) [0, 2, 1, 4, 5, 6] rfl ?_
          exact ih (k + 1) (by omega) (s.1, (f_gr s.2.1 ((abT (lwI I (nI k)) ko nh nl s.2.2.2).1 - nw)), (nI k), ((abT (lwI I (nI k)) ko nh nl s.2.2.2).2)) e'
        · refine a_bipushN (a := 100) dM_strongest_102 (by decide) ?_
          refine a_iload 1 dM_strongest_104 rfl ?_
          refine a_iaddN (a := 100) (b := k) dM_strongest_106 ?_
          refine a_goto (tgt := 112) dM_strongest_107 (by decide) ?_
          refine a_istore (lv' := [(4, .int (nI (100 + k))), (7, .int ((abT (lwI I (nI k)) ko nh nl s.2.2.2).1 - nw)), (6, .int (nI k)), (5, .int s.2.1), (0, .ref 95), (2, .int u), (3, .int nw)]) dM_strongest_112 (by decide) rfl ?_
          refine a_iload 3 dM_strongest_114 rfl ?_
          refine a_iload 1 dM_strongest_116 rfl ?_
          refine a_callS (Q' := m_res (some (.int (f_gr s.2.1 ((abT (lwI I (nI k)) ko nh nl s.2.2.2).1 - nw)))) (m_row (m_row I 95 (va_up (I 95) 30 (nI k))) 110 ((abT (lwI I (nI k)) ko nh nl s.2.2.2).2)) J R) (as := [.int s.2.1, .int ((abT (lwI I (nI k)) ko nh nl s.2.2.2).1 - nw)]) (st := []) dM_strongest_118 ml12_167 rfl (Nat.le_of_ble_eq_true rfl) (Nat.le_of_ble_eq_true rfl) rfl (Nat.le_refl _) (Nat.le_refl _) c_M_greater (m_go ?_)
          show AW _ _ _ _ _ _ _ _ [.int (f_gr s.2.1 ((abT (lwI I (nI k)) ko nh nl s.2.2.2).1 - nw))] _ _ _ _
          refine a_istore (lv' := [(5, .int (f_gr s.2.1 ((abT (lwI I (nI k)) ko nh nl s.2.2.2).1 - nw))), (4, .int (nI (100 + k))), (7, .int ((abT (lwI I (nI k)) ko nh nl s.2.2.2).1 - nw)), (6, .int (nI k)), (0, .ref 95), (2, .int u), (3, .int nw)]) dM_strongest_121 (by decide) rfl ?_
          refine a_iincN (lv' := [(6, .int (nI (k + 1))), (5, .int (f_gr s.2.1 ((abT (lwI I (nI k)) ko nh nl s.2.2.2).1 - nw))), (4, .int (nI (100 + k))), (7, .int ((abT (lwI I (nI k)) ko nh nl s.2.2.2).1 - nw)), (0, .ref 95), (2, .int u), (3, .int nw)]) (j := 3) dM_strongest_123 rfl (by decide) rfl ?_
          refine a_goto (tgt := 29) dM_strongest_126 (by decide) ?_
          have e' : sgN I ko nh nl nw s0 (k + 1) = ((nI (100 + k)), (f_gr s.2.1 ((abT (lwI I (nI k)) ko nh nl s.2.2.2).1 - nw)), (nI k), ((abT (lwI I (nI k)) ko nh nl s.2.2.2).2)) := by
            show sgNS I ko nh nl nw k (sgN I ko nh nl nw s0 k) = _
            rw [es]
            unfold sgNS
            rw [if_neg c52, if_pos c82, if_neg c99]
          refine a_locs (lv' := [(6, .int (nI (k + 1))), (4, .int (nI (100 + k))), (5, .int (f_gr s.2.1 ((abT (lwI I (nI k)) ko nh nl s.2.2.2).1 - nw))), (0, .ref 95), (2, .int u), (3, .int nw)]) [0, 2, 1, 4, 5, 6] rfl ?_
          exact ih (k + 1) (by omega) ((nI (100 + k)), (f_gr s.2.1 ((abT (lwI I (nI k)) ko nh nl s.2.2.2).1 - nw)), (nI k), ((abT (lwI I (nI k)) ko nh nl s.2.2.2).2)) e'
      · refine a_iload 0 dM_strongest_85 rfl ?_
        refine a_ineg dM_strongest_87 ?_
        refine a_goto (tgt := 93) dM_strongest_88 (by decide) ?_
        refine a_istore (lv' := [(7, .int (-((abT (lwI I (nI k)) ko nh nl s.2.2.2).1 - nw))), (6, .int (nI k)), (4, .int s.1), (5, .int s.2.1), (0, .ref 95), (2, .int u), (3, .int nw)]) dM_strongest_93 (by decide) rfl ?_
        refine a_iload 0 dM_strongest_95 rfl ?_
        refine a_iload 3 dM_strongest_97 rfl ?_
        refine a_icmp_le (tgt := 110) dM_strongest_99 (by decide) (fun c99 => ?_) (fun c99 => ?_)
        · refine a_iload 2 dM_strongest_110 rfl ?_
          refine a_istore (lv' := [(4, .int s.1), (7, .int (-((abT (lwI I (nI k)) ko nh nl s.2.2.2).1 - nw))), (6, .int (nI k)), (5, .int s.2.1), (0, .ref 95), (2, .int u), (3, .int nw)]) dM_strongest_112 (by decide) rfl ?_
          refine a_iload 3 dM_strongest_114 rfl ?_
          refine a_iload 1 dM_strongest_116 rfl ?_
          refine a_callS (Q' := m_res (some (.int (f_gr s.2.1 (-((abT (lwI I (nI k)) ko nh nl s.2.2.2).1 - nw))))) (m_row (m_row I 95 (va_up (I 95) 30 (nI k))) 110 ((abT (lwI I (nI k)) ko nh nl s.2.2.2).2)) J R) (as := [.int s.2.1, .int (-((abT (lwI I (nI k)) ko nh nl s.2.2.2).1 - nw))]) (st := []) dM_strongest_118 ml12_167 rfl (Nat.le_of_ble_eq_true rfl) (Nat.le_of_ble_eq_true rfl) rfl (Nat.le_refl _) (Nat.le_refl _) c_M_greater (m_go ?_)
          show AW _ _ _ _ _ _ _ _ [.int (f_gr s.2.1 (-((abT (lwI I (nI k)) ko nh nl s.2.2.2).1 - nw)))] _ _ _ _
          refine a_istore (lv' := [(5, .int (f_gr s.2.1 (-((abT (lwI I (nI k)) ko nh nl s.2.2.2).1 - nw)))), (4, .int s.1), (7, .int (-((abT (lwI I (nI k)) ko nh nl s.2.2.2).1 - nw))), (6, .int (nI k)), (0, .ref 95), (2, .int u), (3, .int nw)]) dM_strongest_121 (by decide) rfl ?_
          refine a_iincN (lv' := [(6, .int (nI (k + 1))), (5, .int (f_gr s.2.1 (-((abT (lwI I (nI k)) ko nh nl s.2.2.2).1 - nw)))), (4, .int s.1), (7, .int (-((abT (lwI I (nI k)) ko nh nl s.2.2.2).1 - nw))), (0, .ref 95), (2, .int u), (3, .int nw)]) (j := 3) dM_strongest_123 rfl (by decide) rfl ?_
          refine a_goto (tgt := 29) dM_strongest_126 (by decide) ?_
          have e' : sgN I ko nh nl nw s0 (k + 1) = (s.1, (f_gr s.2.1 (-((abT (lwI I (nI k)) ko nh nl s.2.2.2).1 - nw))), (nI k), ((abT (lwI I (nI k)) ko nh nl s.2.2.2).2)) := by
            show sgNS I ko nh nl nw k (sgN I ko nh nl nw s0 k) = _
            rw [es]
            unfold sgNS
            rw [if_neg c52, if_neg c82, if_pos c99]
          refine a_locs (lv' := [(6, .int (nI (k + 1))), (4, .int s.1), (5, .int (f_gr s.2.1 (-((abT (lwI I (nI k)) ko nh nl s.2.2.2).1 - nw)))), (0, .ref 95), (2, .int u), (3, .int nw)]) [0, 2, 1, 4, 5, 6] rfl ?_
          exact ih (k + 1) (by omega) (s.1, (f_gr s.2.1 (-((abT (lwI I (nI k)) ko nh nl s.2.2.2).1 - nw))), (nI k), ((abT (lwI I (nI k)) ko nh nl s.2.2.2).2)) e'
        · refine a_bipushN (a := 100) dM_strongest_102 (by decide) ?_
          refine a_iload 1 dM_strongest_104 rfl ?_
          refine a_iaddN (a := 100) (b := k) dM_strongest_106 ?_
          refine a_goto (tgt := 112) dM_strongest_107 (by decide) ?_
          refine a_istore (lv' := [(4, .int (nI (100 + k))), (7, .int (-((abT (lwI I (nI k)) ko nh nl s.2.2.2).1 - nw))), (6, .int (nI k)), (5, .int s.2.1), (0, .ref 95), (2, .int u), (3, .int nw)]) dM_strongest_112 (by decide) rfl ?_
          refine a_iload 3 dM_strongest_114 rfl ?_
          refine a_iload 1 dM_strongest_116 rfl ?_
          refine a_callS (Q' := m_res (some (.int (f_gr s.2.1 (-((abT (lwI I (nI k)) ko nh nl s.2.2.2).1 - nw))))) (m_row (m_row I 95 (va_up (I 95) 30 (nI k))) 110 ((abT (lwI I (nI k)) ko nh nl s.2.2.2).2)) J R) (as := [.int s.2.1, .int (-((abT (lwI I (nI k)) ko nh nl s.2.2.2).1 - nw))]) (st := []) dM_strongest_118 ml12_167 rfl (Nat.le_of_ble_eq_true rfl) (Nat.le_of_ble_eq_true rfl) rfl (Nat.le_refl _) (Nat.le_refl _) c_M_greater (m_go ?_)
          show AW _ _ _ _ _ _ _ _ [.int (f_gr s.2.1 (-((abT (lwI I (nI k)) ko nh nl s.2.2.2).1 - nw)))] _ _ _ _
          refine a_istore (lv' := [(5, .int (f_gr s.2.1 (-((abT (lwI I (nI k)) ko nh nl s.2.2.2).1 - nw)))), (4, .int (nI (100 + k))), (7, .int (-((abT (lwI I (nI k)) ko nh nl s.2.2.2).1 - nw))), (6, .int (nI k)), (0, .ref 95), (2, .int u), (3, .int nw)]) dM_strongest_121 (by decide) rfl ?_
          refine a_iincN (lv' := [(6, .int (nI (k + 1))), (5, .int (f_gr s.2.1 (-((abT (lwI I (nI k)) ko nh nl s.2.2.2).1 - nw)))), (4, .int (nI (100 + k))), (7, .int (-((abT (lwI I (nI k)) ko nh nl s.2.2.2).1 - nw))), (0, .ref 95), (2, .int u), (3, .int nw)]) (j := 3) dM_strongest_123 rfl (by decide) rfl ?_
          refine a_goto (tgt := 29) dM_strongest_126 (by decide) ?_
          have e' : sgN I ko nh nl nw s0 (k + 1) = ((nI (100 + k)), (f_gr s.2.1 (-((abT (lwI I (nI k)) ko nh nl s.2.2.2).1 - nw))), (nI k), ((abT (lwI I (nI k)) ko nh nl s.2.2.2).2)) := by
            show sgNS I ko nh nl nw k (sgN I ko nh nl nw s0 k) = _
            rw [es]
            unfold sgNS
            rw [if_neg c52, if_neg c82, if_neg c99]
          refine a_locs (lv' := [(6, .int (nI (k + 1))), (4, .int (nI (100 + k))), (5, .int (f_gr s.2.1 (-((abT (lwI I (nI k)) ko nh nl s.2.2.2).1 - nw)))), (0, .ref 95), (2, .int u), (3, .int nw)]) [0, 2, 1, 4, 5, 6] rfl ?_
          exact ih (k + 1) (by omega) ((nI (100 + k)), (f_gr s.2.1 (-((abT (lwI I (nI k)) ko nh nl s.2.2.2).1 - nw))), (nI k), ((abT (lwI I (nI k)) ko nh nl s.2.2.2).2)) e'
    · refine a_iconst (v := -1) dM_strongest_55 (by decide) ?_
      refine a_goto (tgt := 65) dM_strongest_56 (by decide) ?_
      refine a_istore (lv' := [(7, .int (-1)), (6, .int (nI k)), (4, .int s.1), (5, .int s.2.1), (0, .ref 95), (2, .int u), (3, .int nw)]) dM_strongest_65 (by decide) rfl ?_
      refine a_aload_n 4 dM_strongest_67 rfl rfl ?_
      refine a_bipushN (a := 59) dM_strongest_68 (by decide) ?_
      refine a_iload 1 dM_strongest_70 rfl ?_
      refine a_iaddN (a := 59) (b := k) dM_strongest_72 ?_
      refine a_callV (Q' := m_res (some (.int (oR I ko (59 + k)))) (m_row (m_row I 95 (va_up (I 95) 30 (nI k))) 110 s.2.2.2) J R) (as := [.int (nI (59 + k))]) (st := []) dM_strongest_73 ml12_255 rfl (Nat.le_of_ble_eq_true rfl) ly_95 rfl rfl (by decide) (by omega) (Nat.le_of_ble_eq_true rfl) rfl (Nat.le_refl _) (Nat.le_refl _) (c_M_of hn hR (show (m_row (m_row I 95 (va_up (I 95) 30 (nI k))) 110 s.2.2.2) 95 23 = nI ko from ho) (by omega)) (m_go ?_)
      show AW _ _ _ _ _ _ _ _ [.int (oR I ko (59 + k))] _ _ _ _
      refine a_iconst (v := -1) dM_strongest_76 (by decide) ?_
      refine a_icmp_eq (tgt := 91) dM_strongest_77 (by decide) (fun _ => ?_) (fun c => False.elim (c c52))
      refine a_iload 0 dM_strongest_91 rfl ?_
      refine a_istore (lv' := [(7, .int (-1)), (6, .int (nI k)), (4, .int s.1), (5, .int s.2.1), (0, .ref 95), (2, .int u), (3, .int nw)]) dM_strongest_93 (by decide) rfl ?_
      refine a_iload 0 dM_strongest_95 rfl ?_
      refine a_iload 3 dM_strongest_97 rfl ?_
      refine a_icmp_le (tgt := 110) dM_strongest_99 (by decide) (fun c99 => ?_) (fun c99 => ?_)
      · refine a_iload 2 dM_strongest_110 rfl ?_
        refine a_istore (lv' := [(4, .int s.1), (7, .int (-1)), (6, .int (nI k)), (5, .int s.2.1), (0, .ref 95), (2, .int u), (3, .int nw)]) dM_strongest_112 (by decide) rfl ?_
        refine a_iload 3 dM_strongest_114 rfl ?_
        refine a_iload 1 dM_strongest_116 rfl ?_
        refine a_callS (Q' := m_res (some (.int (f_gr s.2.1 (-1)))) (m_row (m_row I 95 (va_up (I 95) 30 (nI k))) 110 s.2.2.2) J R) (as := [.int s.2.1, .int (-1)]) (st := []) dM_strongest_118 ml12_167 rfl (Nat.le_of_ble_eq_true rfl) (Nat.le_of_ble_eq_true rfl) rfl (Nat.le_refl _) (Nat.le_refl _) c_M_greater (m_go ?_)
        show AW _ _ _ _ _ _ _ _ [.int (f_gr s.2.1 (-1))] _ _ _ _
        refine a_istore (lv' := [(5, .int (f_gr s.2.1 (-1))), (4, .int s.1), (7, .int (-1)), (6, .int (nI k)), (0, .ref 95), (2, .int u), (3, .int nw)]) dM_strongest_121 (by decide) rfl ?_
        refine a_iincN (lv' := [(6, .int (nI (k + 1))), (5, .int (f_gr s.2.1 (-1))), (4, .int s.1), (7, .int (-1)), (0, .ref 95), (2, .int u), (3, .int nw)]) (j := 3) dM_strongest_123 rfl (by decide) rfl ?_
        refine a_goto (tgt := 29) dM_strongest_126 (by decide) ?_
        have e' : sgN I ko nh nl nw s0 (k + 1) = (s.1, (f_gr s.2.1 (-1)), (nI k), s.2.2.2) := by
          show sgNS I ko nh nl nw k (sgN I ko nh nl nw s0 k) = _
          rw [es]
          unfold sgNS
          rw [if_pos c52, if_pos c99]
        refine a_locs (lv' := [(6, .int (nI (k + 1))), (4, .int s.1), (5, .int (f_gr s.2.1 (-1))), (0, .ref 95), (2, .int u), (3, .int nw)]) [0, 2, 1, 4, 5, 6] rfl ?_
        exact ih (k + 1) (by omega) (s.1, (f_gr s.2.1 (-1)), (nI k), s.2.2.2) e'
      · refine a_bipushN (a := 100) dM_strongest_102 (by decide) ?_
        refine a_iload 1 dM_strongest_104 rfl ?_
        refine a_iaddN (a := 100) (b := k) dM_strongest_106 ?_
        refine a_goto (tgt := 112) dM_strongest_107 (by decide) ?_
        refine a_istore (lv' := [(4, .int (nI (100 + k))), (7, .int (-1)), (6, .int (nI k)), (5, .int s.2.1), (0, .ref 95), (2, .int u), (3, .int nw)]) dM_strongest_112 (by decide) rfl ?_
        refine a_iload 3 dM_strongest_114 rfl ?_
        refine a_iload 1 dM_strongest_116 rfl ?_
        refine a_callS (Q' := m_res (some (.int (f_gr s.2.1 (-1)))) (m_row (m_row I 95 (va_up (I 95) 30 (nI k))) 110 s.2.2.2) J R) (as := [.int s.2.1, .int (-1)]) (st := []) dM_strongest_118 ml12_167 rfl (Nat.le_of_ble_eq_true rfl) (Nat.le_of_ble_eq_true rfl) rfl (Nat.le_refl _) (Nat.le_refl _) c_M_greater (m_go ?_)
        show AW _ _ _ _ _ _ _ _ [.int (f_gr s.2.1 (-1))] _ _ _ _
        refine a_istore (lv' := [(5, .int (f_gr s.2.1 (-1))), (4, .int (nI (100 + k))), (7, .int (-1)), (6, .int (nI k)), (0, .ref 95), (2, .int u), (3, .int nw)]) dM_strongest_121 (by decide) rfl ?_
        refine a_iincN (lv' := [(6, .int (nI (k + 1))), (5, .int (f_gr s.2.1 (-1))), (4, .int (nI (100 + k))), (7, .int (-1)), (0, .ref 95), (2, .int u), (3, .int nw)]) (j := 3) dM_strongest_123 rfl (by decide) rfl ?_
        refine a_goto (tgt := 29) dM_strongest_126 (by decide) ?_
        have e' : sgN I ko nh nl nw s0 (k + 1) = ((nI (100 + k)), (f_gr s.2.1 (-1)), (nI k), s.2.2.2) := by
          show sgNS I ko nh nl nw k (sgN I ko nh nl nw s0 k) = _
          rw [es]
          unfold sgNS
          rw [if_pos c52, if_neg c99]
        refine a_locs (lv' := [(6, .int (nI (k + 1))), (4, .int (nI (100 + k))), (5, .int (f_gr s.2.1 (-1))), (0, .ref 95), (2, .int u), (3, .int nw)]) [0, 2, 1, 4, 5, 6] rfl ?_
        exact ih (k + 1) (by omega) ((nI (100 + k)), (f_gr s.2.1 (-1)), (nI k), s.2.2.2) e'
theorem M110_self {I : mI} : m_row I 110 (I 110) = I := m_row_self
theorem MS_self {I : mI} {B : Nat → Int32} : m_row (m_row I 95 (va_up (I 95) 30 (I 95 30))) 110 B = m_row I 110 B := by rw [va_ui, m_row_self]
abbrev sgT (I : mI) (ko nh nl : Nat) : Int32 × Int32 × Int32 × (Nat → Int32) := sgN I ko nh nl (abT I ko nh nl (I 110)).1 (-1, -1, I 95 30, (abT I ko nh nl (I 110)).2) 16
theorem KR.ms {I : mI} {x : Int32} {B : Nat → Int32} : KR I (m_row (m_row I 95 (va_up (I 95) 30 x)) 110 B) := (KR.refl.row (by decide)).row (by decide)
theorem b_M_strongest {S : Nat × (Nat → Int32)} {d n : Nat} {I : mI} {J : mJ} {R : mR} {ko nh nl : Nat} (hn : 122 ≤ n) (hR : m_fin R) (ho : I 95 23 = nI ko) (hk : ko < 7) (hh : I 95 24 = nI nh) (hnh : nh ≤ 6) (hl : I 95 25 = nI nl) (hnl : nl ≤ 10) (hW : WFk I ko) {u : Int32}  {Q : Option Value → mI → mJ → mR → Prop} (hQ : ∀ I', KR I I' → Q (some (.int (if u = 0 then (sgT I ko nh nl).1 else (sgT I ko nh nl).2.1))) I' J R) : AW S (d + 10) YM_strongest n n Q 15 [(0, .ref 95), (2, .int u)] [] I J R n := by
  refine a_mem M110_self.symm ?_
  refine a_aload_n 0 dM_strongest_15 rfl rfl ?_
  refine a_callV (Q' := m_res (some (.int (abT I ko nh nl (I 110)).1)) (m_row I 110 ((abT I ko nh nl (I 110)).2)) J R) (as := []) (st := []) dM_strongest_16 ml12_479 rfl (Nat.le_of_ble_eq_true rfl) ly_95 rfl rfl (by decide) (by omega) (Nat.le_of_ble_eq_true rfl) rfl (Nat.le_refl _) (Nat.le_refl _) (c_M_allBests (I := I) hn hR ho hk hh hnh hl hnl hW) (m_go ?_)
  show AW _ _ _ _ _ _ _ _ [.int (abT I ko nh nl (I 110)).1] _ _ _ _
  refine a_istore_n (lv' := [(3, .int (abT I ko nh nl (I 110)).1), (0, .ref 95), (2, .int u)]) dM_strongest_19 rfl (by decide) rfl ?_
  refine a_iconst (v := -1) dM_strongest_20 (by decide) ?_
  refine a_istore (lv' := [(4, .int (-1)), (3, .int (abT I ko nh nl (I 110)).1), (0, .ref 95), (2, .int u)]) dM_strongest_21 (by decide) rfl ?_
  refine a_iconst (v := -1) dM_strongest_23 (by decide) ?_
  refine a_istore (lv' := [(5, .int (-1)), (4, .int (-1)), (3, .int (abT I ko nh nl (I 110)).1), (0, .ref 95), (2, .int u)]) dM_strongest_24 (by decide) rfl ?_
  refine a_iconstN (a := 0) dM_strongest_26 (by decide) ?_
  refine a_istore (lv' := [(6, .int (nI 0)), (5, .int (-1)), (4, .int (-1)), (3, .int (abT I ko nh nl (I 110)).1), (0, .ref 95), (2, .int u)]) dM_strongest_27 (by decide) rfl ?_
  refine a_mem MS_self.symm ?_
  refine a_locs (lv' := [(6, .int (nI 0)), (4, .int (-1)), (5, .int (-1)), (0, .ref 95), (2, .int u), (3, .int (abT I ko nh nl (I 110)).1)]) [0, 2, 1, 4, 5, 3] rfl ?_
  refine l_sgN (s0 := (-1, -1, I 95 30, (abT I ko nh nl (I 110)).2)) hn hR ho hk hh hnh hl hnl hW (nw := (abT I ko nh nl (I 110)).1) (u := u) ?_ 16 0 (by omega) _ rfl
  refine a_iload_n 4 dM_strongest_129 rfl rfl ?_
  refine a_if_eq (tgt := 138) dM_strongest_130 (by decide) (fun c130 => ?_) (fun c130 => ?_)
  · refine a_iload 1 dM_strongest_138 rfl ?_
    exact a_iret dM_strongest_140 rfl (by have h := hQ _ (KR.ms (I := I) (x := (sgT I ko nh nl).2.2.1) (B := (sgT I ko nh nl).2.2.2)); rw [if_pos c130] at h; exact h)
  · refine a_iload 2 dM_strongest_133 rfl ?_
    refine a_goto (tgt := 140) dM_strongest_135 (by decide) ?_
    exact a_iret dM_strongest_140 rfl (by have h := hQ _ (KR.ms (I := I) (x := (sgT I ko nh nl).2.2.1) (B := (sgT I ko nh nl).2.2.2)); rw [if_neg c130] at h; exact h)
def chF (f : Nat → Int32) (a b : Nat) : Nat → Int32 := va_up (va_up f a (f b)) b (f a)
theorem ch_ch {f : Nat → Int32} {a b : Nat} (h : a ≠ b) : chF (chF f a b) a b = f := by
  funext j
  unfold chF va_up
  by_cases h1 : j = b
  · subst h1
    simp [h, Ne.symm h]
  · by_cases h2 : j = a
    · subst h2; simp [h, Ne.symm h]
    · simp [h1, h2]
theorem c_M_change {S : Nat × (Nat → Int32)} {d n : Nat} {I : mI} {J : mJ} {R : mR} (hn : 122 ≤ n) (hR : m_fin R) {a b : Nat} (ha : a < 10) (hb : b < 10) {f B : Nat → Int32} : RUN S d YM_change [.ref 95, .int (nI a), .int (nI b)] (m_row (m_row I 106 f) 110 B) J R n none (m_row (m_row I 106 (chF f a b)) 110 B) J R n := by
  show AW S _ YM_change n n _ 0 [(0, .ref 95), (1, .int (nI a)), (2, .int (nI b))] [] (m_row (m_row I 106 f) 110 B) J R n
  refine a_aload_n 0 dM_change_0 rfl rfl ?_
  refine a_geta (r := 106) dM_change_1 fl12_41 rfl ly_95 (by omega) (rf_95_26 hR) ?_
  refine a_iload_n 1 dM_change_4 rfl rfl ?_
  refine a_ialdN (a := a) dM_change_5 ly_106 (by omega) (by omega) (by decide) ?_
  rw [show (m_row (m_row I 106 f) 110 B) 106 a = f a from rfl]
  refine a_istore_n (lv' := [(3, .int (f a)), (0, .ref 95), (1, .int (nI a)), (2, .int (nI b))]) dM_change_6 rfl (by decide) rfl ?_
  refine a_aload_n 1 dM_change_7 rfl rfl ?_
  refine a_geta (r := 106) dM_change_8 fl12_41 rfl ly_95 (by omega) (rf_95_26 hR) ?_
  refine a_iload_n 2 dM_change_11 rfl rfl ?_
  refine a_aload_n 1 dM_change_12 rfl rfl ?_
  refine a_geta (r := 106) dM_change_13 fl12_41 rfl ly_95 (by omega) (rf_95_26 hR) ?_
  refine a_iload_n 3 dM_change_16 rfl rfl ?_
  refine a_ialdN (a := b) dM_change_17 ly_106 (by omega) (by omega) (by decide) ?_
  rw [show (m_row (m_row I 106 f) 110 B) 106 b = f b from rfl]
  refine a_iastN (a := a) dM_change_18 ly_106 (by omega) (by omega) (by decide) ?_
  rw [show m_up (m_row (m_row I 106 f) 110 B) 106 a (f b) = (m_row (m_row I 106 (va_up f a (f b))) 110 B) from (by rw [m_up_comm (by decide), m_up_r])]
  refine a_aload_n 1 dM_change_19 rfl rfl ?_
  refine a_geta (r := 106) dM_change_20 fl12_41 rfl ly_95 (by omega) (rf_95_26 hR) ?_
  refine a_iload_n 3 dM_change_23 rfl rfl ?_
  refine a_iload_n 0 dM_change_24 rfl rfl ?_
  refine a_iastN (a := b) dM_change_25 ly_106 (by omega) (by omega) (by decide) ?_
  rw [show m_up (m_row (m_row I 106 (va_up f a (f b))) 110 B) 106 b (f a) = (m_row (m_row I 106 (va_up (va_up f a (f b)) b (f a))) 110 B) from (by rw [m_up_comm (by decide), m_up_r])]
  exact a_vret dM_change_26 rfl ⟨rfl, rfl, rfl, rfl⟩
abbrev hmI (I : mI) (f : Nat → Int32) : mI := m_row I 106 f
def swAS (I : mI) (ko nh nl t : Nat) (k : Nat) (s : Int32 × Int32 × (Nat → Int32)) : Int32 × Int32 × (Nat → Int32) := (if (abT (hmI I (chF (I 106) t (t + 1 + k))) ko nh nl s.2.2).1 ≤ s.2.1 then (s.1, (f_gr s.2.1 ((abT (hmI I (chF (I 106) t (t + 1 + k))) ko nh nl s.2.2).1)), ((abT (hmI I (chF (I 106) t (t + 1 + k))) ko nh nl s.2.2).2)) else ((nI ((10 * t) + (t + 1 + k))), (f_gr s.2.1 ((abT (hmI I (chF (I 106) t (t + 1 + k))) ko nh nl s.2.2).1)), ((abT (hmI I (chF (I 106) t (t + 1 + k))) ko nh nl s.2.2).2)))
def swA (I : mI) (ko nh nl t : Nat) (s0 : Int32 × Int32 × (Nat → Int32)) : Nat → Int32 × Int32 × (Nat → Int32)
  | 0 => s0
  | k + 1 => swAS I ko nh nl t k (swA I ko nh nl t s0 k)
theorem l_swA {S : Nat × (Nat → Int32)} {d n : Nat} {I : mI} {J : mJ} {R : mR} {ko nh nl : Nat} (hn : 122 ≤ n) (hR : m_fin R) (ho : I 95 23 = nI ko) (hk : ko < 7) (hh : I 95 24 = nI nh) (hnh : nh ≤ 6) (hl : I 95 25 = nI nl) (hnl : nl ≤ 10) (hW : WFk I ko) {u : Int32} {t : Nat} (ht : t < nl)  {s0 : Int32 × Int32 × (Nat → Int32)} {Q : Option Value → mI → mJ → mR → Prop}  (hx : AW S (d + 10) YM_swapped n n Q 109 [(6, .int (nI (t + 1 + (nl - (t + 1))))), (3, .int (swA I ko nh nl t s0 (nl - (t + 1))).1), (4, .int (swA I ko nh nl t s0 (nl - (t + 1))).2.1), (0, .ref 95), (2, .int u), (5, .int (nI t))] [] (m_row (m_row I 106 (I 106)) 110 ((swA I ko nh nl t s0 (nl - (t + 1))).2.2)) J R n) : ∀ m k, k + m = (nl - (t + 1)) → ∀ s : Int32 × Int32 × (Nat → Int32), swA I ko nh nl t s0 k = s → AW S (d + 10) YM_swapped n n Q 43 [(6, .int (nI (t + 1 + k))), (3, .int s.1), (4, .int s.2.1), (0, .ref 95), (2, .int u), (5, .int (nI t))] [] (m_row (m_row I 106 (I 106)) 110 s.2.2) J R n := by
  intro m
  induction m with
  | zero =>
    intro k hk9 s es
    rw [show k = (nl - (t + 1)) by omega] at es ⊢
    subst es
    refine a_iload 0 dM_swapped_43 rfl ?_
    refine a_aload_n 3 dM_swapped_45 rfl rfl ?_
    refine a_geti dM_swapped_46 fl12_262 rfl ly_95 (by omega) ?_
    rw [show (m_row (m_row I 106 (I 106)) 110 ((swA I ko nh nl t s0 (nl - (t + 1))).2.2)) 95 25 = (nI nl) from hl]
    refine a_icmp_geN (tgt := 109) dM_swapped_49 (by decide) (by omega) (by omega) (fun _ => ?_) (fun c => False.elim (by omega))
    exact hx
  | succ m ih =>
    intro k hk9 s es
    refine a_iload 0 dM_swapped_43 rfl ?_
    refine a_aload_n 3 dM_swapped_45 rfl rfl ?_
    refine a_geti dM_swapped_46 fl12_262 rfl ly_95 (by omega) ?_
    rw [show (m_row (m_row I 106 (I 106)) 110 s.2.2) 95 25 = (nI nl) from hl]
    refine a_icmp_geN (tgt := 109) dM_swapped_49 (by decide) (by omega) (by omega) (fun c => False.elim (by omega)) (fun _ => ?_)
    refine a_aload_n 3 dM_swapped_52 rfl rfl ?_
    refine a_iload 5 dM_swapped_53 rfl ?_
    refine a_iload 0 dM_swapped_55 rfl ?_
    refine a_callV (Q' := m_res none (m_row (m_row I 106 (chF (I 106) t (t + 1 + k))) 110 s.2.2) J R) (as := [.int (nI t), .int (nI (t + 1 + k))]) (st := []) dM_swapped_57 ml12_482 rfl (Nat.le_of_ble_eq_true rfl) ly_95 rfl rfl (by decide) (by omega) (Nat.le_of_ble_eq_true rfl) rfl (Nat.le_refl _) (Nat.le_refl _) (c_M_change hn hR (by omega) (by omega)) (m_go ?_)
    show AW _ _ _ _ _ _ _ _ [] _ _ _ _
    refine a_aload_n 3 dM_swapped_60 rfl rfl ?_
    refine a_callV (Q' := m_res (some (.int (abT (hmI I (chF (I 106) t (t + 1 + k))) ko nh nl s.2.2).1)) (m_row (m_row I 106 (chF (I 106) t (t + 1 + k))) 110 ((abT (hmI I (chF (I 106) t (t + 1 + k))) ko nh nl s.2.2).2)) J R) (as := []) (st := []) dM_swapped_61 ml12_479 rfl (Nat.le_of_ble_eq_true rfl) ly_95 rfl rfl (by decide) (by omega) (Nat.le_of_ble_eq_true rfl) rfl (Nat.le_refl _) (Nat.le_refl _) (c_M_allBests (I := m_row I 106 (chF (I 106) t (t + 1 + k))) hn hR ho hk hh hnh hl hnl hW) (m_go ?_)
    show AW _ _ _ _ _ _ _ _ [.int (abT (hmI I (chF (I 106) t (t + 1 + k))) ko nh nl s.2.2).1] _ _ _ _
    refine a_istore (lv' := [(7, .int (abT (hmI I (chF (I 106) t (t + 1 + k))) ko nh nl s.2.2).1), (6, .int (nI (t + 1 + k))), (3, .int s.1), (4, .int s.2.1), (0, .ref 95), (2, .int u), (5, .int (nI t))]) dM_swapped_64 (by decide) rfl ?_
    refine a_aload_n 4 dM_swapped_66 rfl rfl ?_
    refine a_iload 6 dM_swapped_67 rfl ?_
    refine a_iload 1 dM_swapped_69 rfl ?_
    refine a_callV (Q' := m_res none (m_row (m_row I 106 (I 106)) 110 ((abT (hmI I (chF (I 106) t (t + 1 + k))) ko nh nl s.2.2).2)) J R) (as := [.int (nI t), .int (nI (t + 1 + k))]) (st := []) dM_swapped_71 ml12_482 rfl (Nat.le_of_ble_eq_true rfl) ly_95 rfl rfl (by decide) (by omega) (Nat.le_of_ble_eq_true rfl) rfl (Nat.le_refl _) (Nat.le_refl _) (by have h := c_M_change (S := S) (d := d + 9) (n := n) (J := J) (R := R) (I := I) (a := t) (b := (t + 1 + k)) (f := chF (I 106) t (t + 1 + k)) (B := ((abT (hmI I (chF (I 106) t (t + 1 + k))) ko nh nl s.2.2).2)) hn hR (by omega) (by omega); rw [ch_ch (by omega)] at h; exact h) (m_go ?_)
    show AW _ _ _ _ _ _ _ _ [] _ _ _ _
    refine a_iload 0 dM_swapped_74 rfl ?_
    refine a_iload 3 dM_swapped_76 rfl ?_
    refine a_icmp_le (tgt := 92) dM_swapped_78 (by decide) (fun c78 => ?_) (fun c78 => ?_)
    · refine a_iload_n 2 dM_swapped_92 rfl rfl ?_
      refine a_istore_n (lv' := [(3, .int s.1), (7, .int (abT (hmI I (chF (I 106) t (t + 1 + k))) ko nh nl s.2.2).1), (6, .int (nI (t + 1 + k))), (4, .int s.2.1), (0, .ref 95), (2, .int u), (5, .int (nI t))]) dM_swapped_93 rfl (by decide) rfl ?_
      refine a_iload 3 dM_swapped_94 rfl ?_
      refine a_iload 1 dM_swapped_96 rfl ?_
      refine a_callS (Q' := m_res (some (.int (f_gr s.2.1 ((abT (hmI I (chF (I 106) t (t + 1 + k))) ko nh nl s.2.2).1)))) (m_row (m_row I 106 (I 106)) 110 ((abT (hmI I (chF (I 106) t (t + 1 + k))) ko nh nl s.2.2).2)) J R) (as := [.int s.2.1, .int (abT (hmI I (chF (I 106) t (t + 1 + k))) ko nh nl s.2.2).1]) (st := []) dM_swapped_98 ml12_167 rfl (Nat.le_of_ble_eq_true rfl) (Nat.le_of_ble_eq_true rfl) rfl (Nat.le_refl _) (Nat.le_refl _) c_M_greater (m_go ?_)
      show AW _ _ _ _ _ _ _ _ [.int (f_gr s.2.1 ((abT (hmI I (chF (I 106) t (t + 1 + k))) ko nh nl s.2.2).1))] _ _ _ _
      refine a_istore (lv' := [(4, .int (f_gr s.2.1 ((abT (hmI I (chF (I 106) t (t + 1 + k))) ko nh nl s.2.2).1))), (3, .int s.1), (7, .int (abT (hmI I (chF (I 106) t (t + 1 + k))) ko nh nl s.2.2).1), (6, .int (nI (t + 1 + k))), (0, .ref 95), (2, .int u), (5, .int (nI t))]) dM_swapped_101 (by decide) rfl ?_
      refine a_iincN (lv' := [(6, .int (nI ((t + 1 + k) + 1))), (4, .int (f_gr s.2.1 ((abT (hmI I (chF (I 106) t (t + 1 + k))) ko nh nl s.2.2).1))), (3, .int s.1), (7, .int (abT (hmI I (chF (I 106) t (t + 1 + k))) ko nh nl s.2.2).1), (0, .ref 95), (2, .int u), (5, .int (nI t))]) (j := 3) dM_swapped_103 rfl (by decide) rfl ?_
      refine a_goto (tgt := 43) dM_swapped_106 (by decide) ?_
      have e' : swA I ko nh nl t s0 (k + 1) = (s.1, (f_gr s.2.1 ((abT (hmI I (chF (I 106) t (t + 1 + k))) ko nh nl s.2.2).1)), ((abT (hmI I (chF (I 106) t (t + 1 + k))) ko nh nl s.2.2).2)) := by
        show swAS I ko nh nl t k (swA I ko nh nl t s0 k) = _
        rw [es]
        unfold swAS
        rw [if_pos c78]
      refine a_locs (lv' := [(6, .int (nI ((t + 1 + k) + 1))), (3, .int s.1), (4, .int (f_gr s.2.1 ((abT (hmI I (chF (I 106) t (t + 1 + k))) ko nh nl s.2.2).1))), (0, .ref 95), (2, .int u), (5, .int (nI t))]) [0, 2, 1, 4, 5, 6] rfl ?_
      exact ih (k + 1) (by omega) (s.1, (f_gr s.2.1 ((abT (hmI I (chF (I 106) t (t + 1 + k))) ko nh nl s.2.2).1)), ((abT (hmI I (chF (I 106) t (t + 1 + k))) ko nh nl s.2.2).2)) e'
    · refine a_bipushN (a := 10) dM_swapped_81 (by decide) ?_
      refine a_iload 6 dM_swapped_83 rfl ?_
      refine a_imulN (a := 10) (b := t) dM_swapped_85 ?_
      refine a_iload 1 dM_swapped_86 rfl ?_
      refine a_iaddN (a := (10 * t)) (b := (t + 1 + k)) dM_swapped_88 ?_
      refine a_goto (tgt := 93) dM_swapped_89 (by decide) ?_
      refine a_istore_n (lv' := [(3, .int (nI ((10 * t) + (t + 1 + k)))), (7, .int (abT (hmI I (chF (I 106) t (t + 1 + k))) ko nh nl s.2.2).1), (6, .int (nI (t + 1 + k))), (4, .int s.2.1), (0, .ref 95), (2, .int u), (5, .int (nI t))]) dM_swapped_93 rfl (by decide) rfl ?_
      refine a_iload 3 dM_swapped_94 rfl ?_
      refine a_iload 1 dM_swapped_96 rfl ?_
      refine a_callS (Q' := m_res (some (.int (f_gr s.2.1 ((abT (hmI I (chF (I 106) t (t + 1 + k))) ko nh nl s.2.2).1)))) (m_row (m_row I 106 (I 106)) 110 ((abT (hmI I (chF (I 106) t (t + 1 + k))) ko nh nl s.2.2).2)) J R) (as := [.int s.2.1, .int (abT (hmI I (chF (I 106) t (t + 1 + k))) ko nh nl s.2.2).1]) (st := []) dM_swapped_98 ml12_167 rfl (Nat.le_of_ble_eq_true rfl) (Nat.le_of_ble_eq_true rfl) rfl (Nat.le_refl _) (Nat.le_refl _) c_M_greater (m_go ?_)
      show AW _ _ _ _ _ _ _ _ [.int (f_gr s.2.1 ((abT (hmI I (chF (I 106) t (t + 1 + k))) ko nh nl s.2.2).1))] _ _ _ _
      refine a_istore (lv' := [(4, .int (f_gr s.2.1 ((abT (hmI I (chF (I 106) t (t + 1 + k))) ko nh nl s.2.2).1))), (3, .int (nI ((10 * t) + (t + 1 + k)))), (7, .int (abT (hmI I (chF (I 106) t (t + 1 + k))) ko nh nl s.2.2).1), (6, .int (nI (t + 1 + k))), (0, .ref 95), (2, .int u), (5, .int (nI t))]) dM_swapped_101 (by decide) rfl ?_
      refine a_iincN (lv' := [(6, .int (nI ((t + 1 + k) + 1))), (4, .int (f_gr s.2.1 ((abT (hmI I (chF (I 106) t (t + 1 + k))) ko nh nl s.2.2).1))), (3, .int (nI ((10 * t) + (t + 1 + k)))), (7, .int (abT (hmI I (chF (I 106) t (t + 1 + k))) ko nh nl s.2.2).1), (0, .ref 95), (2, .int u), (5, .int (nI t))]) (j := 3) dM_swapped_103 rfl (by decide) rfl ?_
      refine a_goto (tgt := 43) dM_swapped_106 (by decide) ?_
      have e' : swA I ko nh nl t s0 (k + 1) = ((nI ((10 * t) + (t + 1 + k))), (f_gr s.2.1 ((abT (hmI I (chF (I 106) t (t + 1 + k))) ko nh nl s.2.2).1)), ((abT (hmI I (chF (I 106) t (t + 1 + k))) ko nh nl s.2.2).2)) := by
        show swAS I ko nh nl t k (swA I ko nh nl t s0 k) = _
        rw [es]
        unfold swAS
        rw [if_neg c78]
      refine a_locs (lv' := [(6, .int (nI ((t + 1 + k) + 1))), (3, .int (nI ((10 * t) + (t + 1 + k)))), (4, .int (f_gr s.2.1 ((abT (hmI I (chF (I 106) t (t + 1 + k))) ko nh nl s.2.2).1))), (0, .ref 95), (2, .int u), (5, .int (nI t))]) [0, 2, 1, 4, 5, 6] rfl ?_
      exact ih (k + 1) (by omega) ((nI ((10 * t) + (t + 1 + k))), (f_gr s.2.1 ((abT (hmI I (chF (I 106) t (t + 1 + k))) ko nh nl s.2.2).1)), ((abT (hmI I (chF (I 106) t (t + 1 + k))) ko nh nl s.2.2).2)) e'
def swBS (I : mI) (ko nh nl : Nat) (k : Nat) (s : Int32 × Int32 × (Nat → Int32)) : Int32 × Int32 × (Nat → Int32) := ((swA I ko nh nl k (s.1, s.2.1, s.2.2) (nl - (k + 1))).1, (swA I ko nh nl k (s.1, s.2.1, s.2.2) (nl - (k + 1))).2.1, ((swA I ko nh nl k (s.1, s.2.1, s.2.2) (nl - (k + 1))).2.2))
def swB (I : mI) (ko nh nl : Nat) (s0 : Int32 × Int32 × (Nat → Int32)) : Nat → Int32 × Int32 × (Nat → Int32)
  | 0 => s0
  | k + 1 => swBS I ko nh nl k (swB I ko nh nl s0 k)
theorem l_swB {S : Nat × (Nat → Int32)} {d n : Nat} {I : mI} {J : mJ} {R : mR} {ko nh nl : Nat} (hn : 122 ≤ n) (hR : m_fin R) (ho : I 95 23 = nI ko) (hk : ko < 7) (hh : I 95 24 = nI nh) (hnh : nh ≤ 6) (hl : I 95 25 = nI nl) (hnl : nl ≤ 10) (hW : WFk I ko) {u : Int32}  {s0 : Int32 × Int32 × (Nat → Int32)} {Q : Option Value → mI → mJ → mR → Prop}  (hx : AW S (d + 10) YM_swapped n n Q 115 [(5, .int (nI nl)), (3, .int (swB I ko nh nl s0 nl).1), (4, .int (swB I ko nh nl s0 nl).2.1), (0, .ref 95), (2, .int u)] [] (m_row (m_row I 106 (I 106)) 110 ((swB I ko nh nl s0 nl).2.2)) J R n) : ∀ m k, k + m = nl → ∀ s : Int32 × Int32 × (Nat → Int32), swB I ko nh nl s0 k = s → AW S (d + 10) YM_swapped n n Q 28 [(5, .int (nI k)), (3, .int s.1), (4, .int s.2.1), (0, .ref 95), (2, .int u)] [] (m_row (m_row I 106 (I 106)) 110 s.2.2) J R n := by
  intro m
  induction m with
  | zero =>
    intro k hk9 s es
    rw [show k = nl by omega] at es ⊢
    subst es
    refine a_iload 0 dM_swapped_28 rfl ?_
    refine a_aload_n 3 dM_swapped_30 rfl rfl ?_
    refine a_geti dM_swapped_31 fl12_262 rfl ly_95 (by omega) ?_
    rw [show (m_row (m_row I 106 (I 106)) 110 ((swB I ko nh nl s0 nl).2.2)) 95 25 = (nI nl) from hl]
    refine a_icmp_geN (tgt := 115) dM_swapped_34 (by decide) (by omega) (by omega) (fun _ => ?_) (fun c => False.elim (by omega))
    exact hx
  | succ m ih =>
    intro k hk9 s es
    refine a_iload 0 dM_swapped_28 rfl ?_
    refine a_aload_n 3 dM_swapped_30 rfl rfl ?_
    refine a_geti dM_swapped_31 fl12_262 rfl ly_95 (by omega) ?_
    rw [show (m_row (m_row I 106 (I 106)) 110 s.2.2) 95 25 = (nI nl) from hl]
    refine a_icmp_geN (tgt := 115) dM_swapped_34 (by decide) (by omega) (by omega) (fun c => False.elim (by omega)) (fun _ => ?_)
    refine a_iload 0 dM_swapped_37 rfl ?_
    refine a_iconstN (a := 1) dM_swapped_39 (by decide) ?_
    refine a_iaddN (a := k) (b := 1) dM_swapped_40 ?_
    refine a_istore (lv' := [(6, .int (nI (k + 1))), (5, .int (nI k)), (3, .int s.1), (4, .int s.2.1), (0, .ref 95), (2, .int u)]) dM_swapped_41 (by decide) rfl ?_
    refine a_locs (lv' := [(6, .int (nI (k + 1))), (3, .int s.1), (4, .int s.2.1), (0, .ref 95), (2, .int u), (5, .int (nI k))]) [0, 2, 3, 4, 5, 1] rfl ?_
    refine l_swA (s0 := (s.1, s.2.1, s.2.2)) hn hR ho hk hh hnh hl hnl hW (u := u) (t := k) (by omega) ?_ (nl - (k + 1)) 0 (by omega) _ rfl
    refine a_iincN (lv' := [(5, .int (nI (k + 1))), (6, .int (nI (k + 1 + (nl - (k + 1))))), (3, .int (swA I ko nh nl k (s.1, s.2.1, s.2.2) (nl - (k + 1))).1), (4, .int (swA I ko nh nl k (s.1, s.2.1, s.2.2) (nl - (k + 1))).2.1), (0, .ref 95), (2, .int u)]) (j := 5) dM_swapped_109 rfl (by decide) rfl ?_
    refine a_goto (tgt := 28) dM_swapped_112 (by decide) ?_
    have e' : swB I ko nh nl s0 (k + 1) = ((swA I ko nh nl k (s.1, s.2.1, s.2.2) (nl - (k + 1))).1, (swA I ko nh nl k (s.1, s.2.1, s.2.2) (nl - (k + 1))).2.1, ((swA I ko nh nl k (s.1, s.2.1, s.2.2) (nl - (k + 1))).2.2)) := by
      show swBS I ko nh nl k (swB I ko nh nl s0 k) = _
      rw [es]
      unfold swBS
      rfl
    refine a_locs (lv' := [(5, .int (nI (k + 1))), (3, .int (swA I ko nh nl k (s.1, s.2.1, s.2.2) (nl - (k + 1))).1), (4, .int (swA I ko nh nl k (s.1, s.2.1, s.2.2) (nl - (k + 1))).2.1), (0, .ref 95), (2, .int u)]) [0, 2, 3, 4, 5] rfl ?_
    exact ih (k + 1) (by omega) ((swA I ko nh nl k (s.1, s.2.1, s.2.2) (nl - (k + 1))).1, (swA I ko nh nl k (s.1, s.2.1, s.2.2) (nl - (k + 1))).2.1, ((swA I ko nh nl k (s.1, s.2.1, s.2.2) (nl - (k + 1))).2.2)) e'
theorem MC_self {I : mI} {B : Nat → Int32} : m_row (m_row I 106 (I 106)) 110 B = m_row I 110 B := by rw [m_row_self]
abbrev swT (I : mI) (ko nh nl : Nat) : Int32 × Int32 × (Nat → Int32) := swB I ko nh nl (-1, (abT I ko nh nl (I 110)).1, (abT I ko nh nl (I 110)).2) nl
theorem KR.mc {I : mI} {f B : Nat → Int32} : KR I (m_row (m_row I 106 f) 110 B) := (KR.refl.row (by decide)).row (by decide)
theorem b_M_swapped {S : Nat × (Nat → Int32)} {d n : Nat} {I : mI} {J : mJ} {R : mR} {ko nh nl : Nat} (hn : 122 ≤ n) (hR : m_fin R) (ho : I 95 23 = nI ko) (hk : ko < 7) (hh : I 95 24 = nI nh) (hnh : nh ≤ 6) (hl : I 95 25 = nI nl) (hnl : nl ≤ 10) (hW : WFk I ko) {u : Int32}  {Q : Option Value → mI → mJ → mR → Prop} (hQ : ∀ I', KR I I' → Q (some (.int (if u = 0 then (swT I ko nh nl).1 else (swT I ko nh nl).2.1))) I' J R) : AW S (d + 10) YM_swapped n n Q 17 [(0, .ref 95), (2, .int u)] [] I J R n := by
  refine a_mem M110_self.symm ?_
  refine a_iconst (v := -1) dM_swapped_17 (by decide) ?_
  refine a_istore_n (lv' := [(3, .int (-1)), (0, .ref 95), (2, .int u)]) dM_swapped_18 rfl (by decide) rfl ?_
  refine a_aload_n 1 dM_swapped_19 rfl rfl ?_
  refine a_callV (Q' := m_res (some (.int (abT I ko nh nl (I 110)).1)) (m_row I 110 ((abT I ko nh nl (I 110)).2)) J R) (as := []) (st := []) dM_swapped_20 ml12_479 rfl (Nat.le_of_ble_eq_true rfl) ly_95 rfl rfl (by decide) (by omega) (Nat.le_of_ble_eq_true rfl) rfl (Nat.le_refl _) (Nat.le_refl _) (c_M_allBests (I := I) hn hR ho hk hh hnh hl hnl hW) (m_go ?_)
  show AW _ _ _ _ _ _ _ _ [.int (abT I ko nh nl (I 110)).1] _ _ _ _
  refine a_istore (lv' := [(4, .int (abT I ko nh nl (I 110)).1), (3, .int (-1)), (0, .ref 95), (2, .int u)]) dM_swapped_23 (by decide) rfl ?_
  refine a_iconstN (a := 0) dM_swapped_25 (by decide) ?_
  refine a_istore (lv' := [(5, .int (nI 0)), (4, .int (abT I ko nh nl (I 110)).1), (3, .int (-1)), (0, .ref 95), (2, .int u)]) dM_swapped_26 (by decide) rfl ?_
  refine a_mem MC_self.symm ?_
  refine a_locs (lv' := [(5, .int (nI 0)), (3, .int (-1)), (4, .int (abT I ko nh nl (I 110)).1), (0, .ref 95), (2, .int u)]) [0, 2, 1, 3, 4] rfl ?_
  refine l_swB (s0 := (-1, (abT I ko nh nl (I 110)).1, (abT I ko nh nl (I 110)).2)) hn hR ho hk hh hnh hl hnl hW (u := u) ?_ nl 0 (by omega) _ rfl
  refine a_iload_n 4 dM_swapped_115 rfl rfl ?_
  refine a_if_eq (tgt := 124) dM_swapped_116 (by decide) (fun c116 => ?_) (fun c116 => ?_)
  · refine a_iload_n 1 dM_swapped_124 rfl rfl ?_
    exact a_iret dM_swapped_125 rfl (by have h := hQ _ (KR.mc (I := I) (f := I 106) (B := (swT I ko nh nl).2.2)); rw [if_pos c116] at h; exact h)
  · refine a_iload 2 dM_swapped_119 rfl ?_
    refine a_goto (tgt := 125) dM_swapped_121 (by decide) ?_
    exact a_iret dM_swapped_125 rfl (by have h := hQ _ (KR.mc (I := I) (f := I 106) (B := (swT I ko nh nl).2.2)); rw [if_neg c116] at h; exact h)
theorem b_M_dear {S : Nat × (Nat → Int32)} {d n : Nat} {I : mI} {J : mJ} {R : mR} {ko nh nl : Nat} (hn : 122 ≤ n) (hR : m_fin R) (ho : I 95 23 = nI ko) (hk : ko < 7) (hh : I 95 24 = nI nh) (hnh : nh ≤ 6) (hl : I 95 25 = nI nl) (hnl : nl ≤ 10) (hW : WFk I ko) (hH : WFh (I 106) nl) {l : Nat} (hln : l < nl)  {Q : Option Value → mI → mJ → mR → Prop} (hQ : ∀ B, Q (some (.int (baR I ko nl (hmN (I 106) l) (I 110) - boR I ko nl (hmN (I 106) l) (rmN (ltH I (hmN (I 106) l) nl) l) 0 (baB I ko nl (hmN (I 106) l) (I 110))))) (m_row I 110 B) J R) : AW S (d + 9) YM_dear n n Q 25 [(0, .ref 95), (2, .int (nI l))] [] I J R n := by
  have h6 := (hH.hm hln).2
  refine a_mem M110_self.symm ?_
  refine a_aload_n 0 dM_dear_25 rfl rfl ?_
  refine a_geta (r := 106) dM_dear_26 fl12_41 rfl ly_95 (by omega) (rf_95_26 hR) ?_
  refine a_iload_n 1 dM_dear_29 rfl rfl ?_
  refine a_ialdN (a := l) dM_dear_30 ly_106 (by omega) (by omega) (by decide) ?_
  rw [show (m_row I 110 (I 110)) 106 l = I 106 l from rfl]
  rw [show (I 106 l) = (nI (hmN (I 106) l)) from (hH.hm hln).1]
  refine a_istore_n (lv' := [(3, .int (nI (hmN (I 106) l))), (0, .ref 95), (2, .int (nI l))]) dM_dear_31 rfl (by decide) rfl ?_
  refine a_aload_n 1 dM_dear_32 rfl rfl ?_
  refine a_iload_n 0 dM_dear_33 rfl rfl ?_
  refine a_callV (Q' := m_res (some (.int (baR I ko nl (hmN (I 106) l) (I 110)))) (m_row I 110 (baB I ko nl (hmN (I 106) l) (I 110))) J R) (as := [.int (nI (hmN (I 106) l))]) (st := []) dM_dear_34 ml12_476 rfl (Nat.le_of_ble_eq_true rfl) ly_95 rfl rfl (by decide) (by omega) (Nat.le_of_ble_eq_true rfl) rfl (Nat.le_refl _) (Nat.le_refl _) (c_M_bestAll hn hR ho hk hh hnh hl hnl hW (by omega)) (m_go ?_)
  show AW _ _ _ _ _ _ _ _ [.int (baR I ko nl (hmN (I 106) l) (I 110))] _ _ _ _
  refine a_aload_n 1 dM_dear_37 rfl rfl ?_
  refine a_iload_n 0 dM_dear_38 rfl rfl ?_
  refine a_aload_n 1 dM_dear_39 rfl rfl ?_
  refine a_iload_n 0 dM_dear_40 rfl rfl ?_
  refine a_callV (Q' := m_res (some (.int (nI (ltN (I 106) (nI (hmN (I 106) l)) nl)))) (m_row I 110 (baB I ko nl (hmN (I 106) l) (I 110))) J R) (as := [.int (nI (hmN (I 106) l))]) (st := [.int (nI (hmN (I 106) l)), .ref 95, .int (baR I ko nl (hmN (I 106) l) (I 110))]) dM_dear_41 ml12_362 rfl (Nat.le_of_ble_eq_true rfl) ly_95 rfl rfl (by decide) (by omega) (Nat.le_of_ble_eq_true rfl) rfl (Nat.le_refl _) (Nat.le_refl _) (c_M_lettersN (I := (m_row I 110 (baB I ko nl (hmN (I 106) l) (I 110)))) hn hR hl hnl) (m_go ?_)
  show AW _ _ _ _ _ _ _ _ [.int (nI (ltN (I 106) (nI (hmN (I 106) l)) nl)), .int (nI (hmN (I 106) l)), .ref 95, .int (baR I ko nl (hmN (I 106) l) (I 110))] _ _ _ _
  refine a_iconstN (a := 1) dM_dear_44 (by decide) ?_
  refine a_iload_n 2 dM_dear_45 rfl rfl ?_
  refine a_ishl dM_dear_46 ?_
  refine a_iconst (v := -1) dM_dear_47 (by decide) ?_
  refine a_ixor dM_dear_48 ?_
  refine a_iand dM_dear_49 ?_
  rw [show ((nI (ltN (I 106) (nI (hmN (I 106) l)) nl)) &&& (((nI 1) <<< ((nI l) &&& 31)) ^^^ (-1))) = (nI (rmN (ltN (I 106) (nI (hmN (I 106) l)) nl) l)) from (rm_nI _ _)]
  refine a_iconstN (a := 0) dM_dear_50 (by decide) ?_
  refine a_callV (Q' := m_res (some (.int (boR I ko nl (hmN (I 106) l) (rmN (ltN (I 106) (nI (hmN (I 106) l)) nl) l) 0 (baB I ko nl (hmN (I 106) l) (I 110))))) (m_row I 110 (foN I ko nl (nI (rmN (ltN (I 106) (nI (hmN (I 106) l)) nl) l)) 0 (baB I ko nl (hmN (I 106) l) (I 110)) 1024)) J R) (as := [.int (nI (hmN (I 106) l)), .int (nI (rmN (ltN (I 106) (nI (hmN (I 106) l)) nl) l)), .int (nI 0)]) (st := [.int (baR I ko nl (hmN (I 106) l) (I 110))]) dM_dear_51 ml12_365 rfl (Nat.le_of_ble_eq_true rfl) ly_95 rfl rfl (by decide) (by omega) (Nat.le_of_ble_eq_true rfl) rfl (Nat.le_refl _) (Nat.le_refl _) (c_M_bestOf hn hR ho hk hh hnh hl hnl hW (by omega) (rm_1024 (by omega) (lt_lt hnl))) (m_go ?_)
  show AW _ _ _ _ _ _ _ _ [.int (boR I ko nl (hmN (I 106) l) (rmN (ltN (I 106) (nI (hmN (I 106) l)) nl) l) 0 (baB I ko nl (hmN (I 106) l) (I 110))), .int (baR I ko nl (hmN (I 106) l) (I 110))] _ _ _ _
  refine a_isub dM_dear_54 ?_
  exact a_iret dM_dear_55 rfl (hQ _)
theorem M39_110 {I : mI} {x : Int32} : m_row (m_row I 95 (va_up (I 95) 39 x)) 110 (I 110) = m_row I 95 (va_up (I 95) 39 x) := m_row_id rfl
theorem KR.m39 {I : mI} {x : Int32} {B : Nat → Int32} : KR I (m_row (m_row I 95 (va_up (I 95) 39 x)) 110 B) := (KR.refl.row (by decide)).row (by decide)
theorem b_M_spoilt {S : Nat × (Nat → Int32)} {d n : Nat} {I : mI} {J : mJ} {R : mR} {ko nh nl : Nat} (hn : 122 ≤ n) (hR : m_fin R) (ho : I 95 23 = nI ko) (hk : ko < 7) (hh : I 95 24 = nI nh) (hnh : nh ≤ 6) (hl : I 95 25 = nI nl) (hnl : nl ≤ 10) (hW : WFk I ko) {h : Nat} (hh6 : h < nh) {u : Int32}  {Q : Option Value → mI → mJ → mR → Prop} (hQ : ∀ I', KR I I' → Q (some (.int (if u = 0 then baR I ko nl h (I 110) - (bhR I ko (oR I ko (3 + h)) (ltsN (I 106) (nI h) nl) nl).1 else (bhR I ko (oR I ko (3 + h)) (ltsN (I 106) (nI h) nl) nl).2.2))) I' J R) : AW S (d + 9) YM_spoilt n n Q 25 [(0, .ref 95), (2, .int (nI h)), (3, .int u)] [] I J R n := by
  refine a_aload_n 0 dM_spoilt_25 rfl rfl ?_
  refine a_iload_n 1 dM_spoilt_26 rfl rfl ?_
  refine a_aload_n 0 dM_spoilt_27 rfl rfl ?_
  refine a_iload_n 1 dM_spoilt_28 rfl rfl ?_
  refine a_callV (Q' := m_res (some (.int (ltsN (I 106) (nI h) nl))) I J R) (as := [.int (nI h)]) (st := [.int (nI h), .ref 95]) dM_spoilt_29 ml12_362 rfl (Nat.le_of_ble_eq_true rfl) ly_95 rfl rfl (by decide) (by omega) (Nat.le_of_ble_eq_true rfl) rfl (Nat.le_refl _) (Nat.le_refl _) (c_M_lettersOf (nl := nl) hn hR hl hnl) (m_go ?_)
  show AW _ _ _ _ _ _ _ _ [.int (ltsN (I 106) (nI h) nl), .int (nI h), .ref 95] _ _ _ _
  refine a_callV (Q' := m_res (some (.int (bhR I ko (oR I ko (3 + h)) (ltsN (I 106) (nI h) nl) nl).1)) (m_row I 95 (va_up (I 95) 39 (bhR I ko (oR I ko (3 + h)) (ltsN (I 106) (nI h) nl) nl).2.2)) J R) (as := [.int (nI h), .int (ltsN (I 106) (nI h) nl)]) (st := []) dM_spoilt_32 ml12_390 rfl (Nat.le_of_ble_eq_true rfl) ly_95 rfl rfl (by decide) (by omega) (Nat.le_of_ble_eq_true rfl) rfl (Nat.le_refl _) (Nat.le_refl _) (c_M_behind hn hR ho hk hl hnl hW (by omega)) (m_go ?_)
  show AW _ _ _ _ _ _ _ _ [.int (bhR I ko (oR I ko (3 + h)) (ltsN (I 106) (nI h) nl) nl).1] _ _ _ _
  refine a_istore (lv' := [(4, .int (bhR I ko (oR I ko (3 + h)) (ltsN (I 106) (nI h) nl) nl).1), (0, .ref 95), (2, .int (nI h)), (3, .int u)]) dM_spoilt_35 (by decide) rfl ?_
  refine a_iload_n 3 dM_spoilt_37 rfl rfl ?_
  refine a_if_eq (tgt := 48) dM_spoilt_38 (by decide) (fun c38 => ?_) (fun c38 => ?_)
  · refine a_mem M39_110.symm ?_
    refine a_aload_n 1 dM_spoilt_48 rfl rfl ?_
    refine a_iload_n 2 dM_spoilt_49 rfl rfl ?_
    refine a_callV (Q' := m_res (some (.int (baR I ko nl h (I 110)))) (m_row (m_row I 95 (va_up (I 95) 39 (bhR I ko (oR I ko (3 + h)) (ltsN (I 106) (nI h) nl) nl).2.2)) 110 (baB I ko nl h (I 110))) J R) (as := [.int (nI h)]) (st := []) dM_spoilt_50 ml12_476 rfl (Nat.le_of_ble_eq_true rfl) ly_95 rfl rfl (by decide) (by omega) (Nat.le_of_ble_eq_true rfl) rfl (Nat.le_refl _) (Nat.le_refl _) (by have h9 := c_M_bestAll (S := S) (d := d) (n := n) (J := J) (R := R) (I := (m_row I 95 (va_up (I 95) 39 (bhR I ko (oR I ko (3 + h)) (ltsN (I 106) (nI h) nl) nl).2.2))) (B := I 110) hn hR ho hk hh hnh hl hnl hW (h := h) (by omega); rw [baR_eq (I := I) (I' := (m_row I 95 (va_up (I 95) 39 (bhR I ko (oR I ko (3 + h)) (ltsN (I 106) (nI h) nl) nl).2.2))) (dsR_row rfl) rfl rfl, baB_eq (I := I) (I' := (m_row I 95 (va_up (I 95) 39 (bhR I ko (oR I ko (3 + h)) (ltsN (I 106) (nI h) nl) nl).2.2))) (dsR_row rfl) rfl rfl] at h9; exact h9) (m_go ?_)
    show AW _ _ _ _ _ _ _ _ [.int (baR I ko nl h (I 110))] _ _ _ _
    refine a_iload 0 dM_spoilt_53 rfl ?_
    refine a_isub dM_spoilt_55 ?_
    exact a_iret dM_spoilt_56 rfl (by have h9 := hQ _ (KR.m39 (I := I) (x := (bhR I ko (oR I ko (3 + h)) (ltsN (I 106) (nI h) nl) nl).2.2) (B := baB I ko nl h (I 110))); rw [if_pos c38] at h9; exact h9)
  · refine a_aload_n 1 dM_spoilt_41 rfl rfl ?_
    refine a_geti dM_spoilt_42 fl12_385 rfl ly_95 (by omega) ?_
    rw [show (m_row I 95 (va_up (I 95) 39 (bhR I ko (oR I ko (3 + h)) (ltsN (I 106) (nI h) nl) nl).2.2)) 95 39 = (bhR I ko (oR I ko (3 + h)) (ltsN (I 106) (nI h) nl) nl).2.2 from rfl]
    refine a_goto (tgt := 56) dM_spoilt_45 (by decide) ?_
    exact a_iret dM_spoilt_56 rfl (by have h9 := hQ _ (KR.m39 (I := I) (x := (bhR I ko (oR I ko (3 + h)) (ltsN (I 106) (nI h) nl) nl).2.2) (B := I 110)); rw [if_neg c38] at h9; rw [M39_110] at h9; exact h9)
