def pwNS (x : Int64) (k : Nat) (s : Int64) : Int64 := (s * x)
def pwN (x : Int64) (s0 : Int64) : Nat → Int64
  | 0 => s0
  | k + 1 => pwNS x k (pwN x s0 k)
theorem l_pwN {S : Nat × (Nat → Int32)} {d n : Nat} {I : mI} {J : mJ} {R : mR} {x : Int64} {N : Nat} (hN : N < 2 ^ 31)  {s0 : Int64} {Q : Option Value → mI → mJ → mR → Prop}  (hx : AW S d YM_power n n Q 21 [(5, .int (nI N)), (3, .long (pwN x s0 N)), (0, .long x), (2, .int (nI N))] [] I J R n) : ∀ m k, k + m = N → ∀ s : Int64, pwN x s0 k = s → AW S d YM_power n n Q 5 [(5, .int (nI k)), (3, .long s), (0, .long x), (2, .int (nI N))] [] I J R n := by
  intro m
  induction m with
  | zero =>
    intro k hk9 s es
    rw [show k = N by omega] at es ⊢
    subst es
    refine a_iload 0 dM_power_5 rfl ?_
    refine a_iload_n 3 dM_power_7 rfl rfl ?_
    refine a_icmp_geN (tgt := 21) dM_power_8 (by decide) (by omega) (by omega) (fun _ => ?_) (fun c => False.elim (by omega))
    exact hx
  | succ m ih =>
    intro k hk9 s es
    refine a_iload 0 dM_power_5 rfl ?_
    refine a_iload_n 3 dM_power_7 rfl rfl ?_
    refine a_icmp_geN (tgt := 21) dM_power_8 (by decide) (by omega) (by omega) (fun c => False.elim (by omega)) (fun _ => ?_)
    refine a_lload_n 1 dM_power_11 rfl rfl ?_
    refine a_lload_n 2 dM_power_12 rfl rfl ?_
    refine a_lmul dM_power_13 ?_
    refine a_lstore_n (lv' := [(3, .long (s * x)), (5, .int (nI k)), (0, .long x), (2, .int (nI N))]) dM_power_14 rfl (by decide) rfl ?_
    refine a_iincN (lv' := [(5, .int (nI (k + 1))), (3, .long (s * x)), (0, .long x), (2, .int (nI N))]) (j := 1) dM_power_15 rfl (by decide) rfl ?_
    refine a_goto (tgt := 5) dM_power_18 (by decide) ?_
    have e' : pwN x s0 (k + 1) = (s * x) := by
      show pwNS x k (pwN x s0 k) = _
      rw [es]
      unfold pwNS
      rfl
    exact ih (k + 1) (by omega) (s * x) e'
theorem c_M_power {S : Nat × (Nat → Int32)} {d n : Nat} {I : mI} {J : mJ} {R : mR} {x : Int64} {N : Nat} (hN : N < 2 ^ 31)  : RUN S d YM_power [.long x, .int (nI N)] I J R n (some (.long (pwN x 1 N))) I J R n := by
  show AW S _ YM_power n n _ 0 [(0, .long x), (2, .int (nI N))] [] I J R n
  refine a_lconst (v := 1) dM_power_0 (by decide) ?_
  refine a_lstore_n (lv' := [(3, .long 1), (0, .long x), (2, .int (nI N))]) dM_power_1 rfl (by decide) rfl ?_
  refine a_iconstN (a := 0) dM_power_2 (by decide) ?_
  refine a_istore (lv' := [(5, .int (nI 0)), (3, .long 1), (0, .long x), (2, .int (nI N))]) dM_power_3 (by decide) rfl ?_
  refine l_pwN (s0 := 1) hN ?_ N 0 (by omega) _ rfl
  refine a_lload_n 1 dM_power_21 rfl rfl ?_
  exact a_lret dM_power_22 rfl ⟨rfl, rfl, rfl, rfl⟩
theorem dsR_row {I : mI} {f : Nat → Int32} {ko : Nat} (h : f 30 = I 95 30) : dsR (m_row I 95 f) ko = dsR I ko := by
  funext l x
  unfold dsR
  rw [m_row_eq, h]
  rfl
theorem oR_row {I : mI} {f : Nat → Int32} {ko : Nat} : oR (m_row I 95 f) ko = oR I ko := rfl
theorem WFk_row {I : mI} {f : Nat → Int32} {ko : Nat} (h : WFk I ko) : WFk (m_row I 95 f) ko := h
abbrev bhR (I : mI) (ko : Nat) (m0 b0 : Int32) (k : Nat) : Int32 × Int32 × Int32 := bhN (dsR I ko) (fun l => oR I ko (19 + l)) m0 b0 k
theorem l_bhR {S : Nat × (Nat → Int32)} {d n : Nat} {I : mI} {J : mJ} {R : mR} {ko nl : Nat} (hn : 122 ≤ n) (hR : m_fin R) (ho : I 95 23 = nI ko) (hk : ko < 7) (hl : I 95 25 = nI nl) (hnl : nl ≤ 10) (hW : WFk I ko) {b0 : Int32} {m0 : Int32}   {Q : Option Value → mI → mJ → mR → Prop}  (hx : AW S (d + 4) YM_behind n n Q 74 [(5, .int (nI nl)), (3, .int (bhN (dsR I ko) (fun l => oR I ko (19 + l)) m0 b0 nl).1), (4, .int (bhN (dsR I ko) (fun l => oR I ko (19 + l)) m0 b0 nl).2.1), (0, .ref 95), (2, .int b0)] [] (m_row I 95 (va_up (I 95) 39 ((bhN (dsR I ko) (fun l => oR I ko (19 + l)) m0 b0 nl).2.2))) J R n) : ∀ m k, k + m = nl → ∀ s : Int32 × Int32 × Int32, bhN (dsR I ko) (fun l => oR I ko (19 + l)) m0 b0 k = s → AW S (d + 4) YM_behind n n Q 19 [(5, .int (nI k)), (3, .int s.1), (4, .int s.2.1), (0, .ref 95), (2, .int b0)] [] (m_row I 95 (va_up (I 95) 39 s.2.2)) J R n := by
  intro m
  induction m with
  | zero =>
    intro k hk9 s es
    rw [show k = nl by omega] at es ⊢
    subst es
    refine a_iload 0 dM_behind_19 rfl ?_
    refine a_aload_n 3 dM_behind_21 rfl rfl ?_
    refine a_geti dM_behind_22 fl12_262 rfl ly_95 (by omega) ?_
    rw [show (m_row I 95 (va_up (I 95) 39 ((bhN (dsR I ko) (fun l => oR I ko (19 + l)) m0 b0 nl).2.2))) 95 25 = (nI nl) from hl]
    refine a_icmp_geN (tgt := 74) dM_behind_25 (by decide) (by omega) (by omega) (fun _ => ?_) (fun c => False.elim (by omega))
    exact hx
  | succ m ih =>
    intro k hk9 s es
    have hq := bhN_ok (ds := dsR I ko) (kd := fun l => oR I ko (19 + l)) (m0 := m0) (s := b0) k (fun l hl => hW.ok (by omega))
    rw [show bhN (dsR I ko) (fun l => oR I ko (19 + l)) m0 b0 k = s from es] at hq
    refine a_iload 0 dM_behind_19 rfl ?_
    refine a_aload_n 3 dM_behind_21 rfl rfl ?_
    refine a_geti dM_behind_22 fl12_262 rfl ly_95 (by omega) ?_
    rw [show (m_row I 95 (va_up (I 95) 39 s.2.2)) 95 25 = (nI nl) from hl]
    refine a_icmp_geN (tgt := 74) dM_behind_25 (by decide) (by omega) (by omega) (fun c => False.elim (by omega)) (fun _ => ?_)
    refine a_iload_n 4 dM_behind_28 rfl rfl ?_
    refine a_iload 0 dM_behind_29 rfl ?_
    refine a_callS (Q' := m_res (some (.int (f_has b0 (nI k)))) (m_row I 95 (va_up (I 95) 39 s.2.2)) J R) (as := [.int b0, .int (nI k)]) (st := []) dM_behind_31 ml12_94 rfl (Nat.le_of_ble_eq_true rfl) (Nat.le_of_ble_eq_true rfl) rfl (Nat.le_refl _) (Nat.le_refl _) c_M_has (m_go ?_)
    show AW _ _ _ _ _ _ _ _ [.int (f_has b0 (nI k))] _ _ _ _
    refine a_if_eq (tgt := 68) dM_behind_34 (by decide) (fun c34 => ?_) (fun c34 => ?_)
    · refine a_iincN (lv' := [(5, .int (nI (k + 1))), (3, .int s.1), (4, .int s.2.1), (0, .ref 95), (2, .int b0)]) (j := 0) dM_behind_68 rfl (by decide) rfl ?_
      refine a_goto (tgt := 19) dM_behind_71 (by decide) ?_
      have e' : bhN (dsR I ko) (fun l => oR I ko (19 + l)) m0 b0 (k + 1) = (s.1, s.2.1, s.2.2) := by
        unfold bhN
        rw [es]
        rw [if_pos c34]
      exact ih (k + 1) (by omega) (s.1, s.2.1, s.2.2) e'
    · refine a_iload_n 1 dM_behind_37 rfl rfl ?_
      refine a_aload_n 3 dM_behind_38 rfl rfl ?_
      refine a_iload 0 dM_behind_39 rfl ?_
      refine a_iload 2 dM_behind_41 rfl ?_
      refine a_callV (Q' := m_res (some (.int (dsR I ko k s.2.1))) (m_row I 95 (va_up (I 95) 39 s.2.2)) J R) (as := [.int (nI k), .int s.2.1]) (st := [.int s.1]) dM_behind_43 ml12_283 rfl (Nat.le_of_ble_eq_true rfl) ly_95 rfl rfl (by decide) (by omega) (Nat.le_of_ble_eq_true rfl) rfl (Nat.le_refl _) (Nat.le_refl _) (by have h := c_M_doesBy (S := S) (d := d) (n := n) (J := J) (R := R) (I := (m_row I 95 (va_up (I 95) 39 s.2.2))) (ko := ko) (l := k) (x := s.2.1) hn hR (show (m_row I 95 (va_up (I 95) 39 s.2.2)) 95 23 = nI ko from ho) hk (by omega) (WFk_row hW) hq; rw [dsR_row (I := I) (f := (va_up (I 95) 39 s.2.2)) rfl] at h; exact h) (m_go ?_)
      show AW _ _ _ _ _ _ _ _ [.int (dsR I ko k s.2.1), .int s.1] _ _ _ _
      refine a_iadd dM_behind_46 ?_
      refine a_istore_n (lv' := [(3, .int (s.1 + (dsR I ko k s.2.1))), (5, .int (nI k)), (4, .int s.2.1), (0, .ref 95), (2, .int b0)]) dM_behind_47 rfl (by decide) rfl ?_
      refine a_aload_n 3 dM_behind_48 rfl rfl ?_
      refine a_iload 1 dM_behind_49 rfl ?_
      refine a_callV (Q' := m_res (some (.int (oR I ko (19 + k)))) (m_row I 95 (va_up (I 95) 39 s.2.2)) J R) (as := [.int (nI k)]) (st := []) dM_behind_51 ml12_271 rfl (Nat.le_of_ble_eq_true rfl) ly_95 rfl rfl (by decide) (by omega) (Nat.le_of_ble_eq_true rfl) rfl (Nat.le_refl _) (Nat.le_refl _) (c_M_kind hn hR (show (m_row I 95 (va_up (I 95) 39 s.2.2)) 95 23 = nI ko from ho) hk (by omega)) (m_go ?_)
      show AW _ _ _ _ _ _ _ _ [.int (oR I ko (19 + k))] _ _ _ _
      refine a_istore (lv' := [(4, .int (oR I ko (19 + k))), (3, .int (s.1 + (dsR I ko k s.2.1))), (5, .int (nI k)), (0, .ref 95), (2, .int b0)]) dM_behind_54 (by decide) rfl ?_
      refine a_aload_n 3 dM_behind_56 rfl rfl ?_
      refine a_aload_n 3 dM_behind_57 rfl rfl ?_
      refine a_geti dM_behind_58 fl12_385 rfl ly_95 (by omega) ?_
      rw [show (m_row I 95 (va_up (I 95) 39 s.2.2)) 95 39 = s.2.2 from rfl]
      refine a_iload_n 1 dM_behind_61 rfl rfl ?_
      refine a_callS (Q' := m_res (some (.int (f_le s.2.2 (s.1 + (dsR I ko k s.2.1))))) (m_row I 95 (va_up (I 95) 39 s.2.2)) J R) (as := [.int s.2.2, .int (s.1 + (dsR I ko k s.2.1))]) (st := [.ref 95]) dM_behind_62 ml12_355 rfl (Nat.le_of_ble_eq_true rfl) (Nat.le_of_ble_eq_true rfl) rfl (Nat.le_refl _) (Nat.le_refl _) c_M_lesser (m_go ?_)
      show AW _ _ _ _ _ _ _ _ [.int (f_le s.2.2 (s.1 + (dsR I ko k s.2.1))), .ref 95] _ _ _ _
      refine a_puti dM_behind_65 fl12_385 rfl ly_95 (by omega) ?_
      rw [show m_up (m_row I 95 (va_up (I 95) 39 s.2.2)) 95 39 (f_le s.2.2 (s.1 + (dsR I ko k s.2.1))) = (m_row I 95 (va_up (I 95) 39 (f_le s.2.2 (s.1 + (dsR I ko k s.2.1))))) from (by rw [m_up_r, show va_up (va_up (I 95) 39 s.2.2) 39 (f_le s.2.2 (s.1 + (dsR I ko k s.2.1))) = (va_up (I 95) 39 (f_le s.2.2 (s.1 + (dsR I ko k s.2.1)))) from va_uu])]
      refine a_iincN (lv' := [(5, .int (nI (k + 1))), (4, .int (oR I ko (19 + k))), (3, .int (s.1 + (dsR I ko k s.2.1))), (0, .ref 95), (2, .int b0)]) (j := 2) dM_behind_68 rfl (by decide) rfl ?_
      refine a_goto (tgt := 19) dM_behind_71 (by decide) ?_
      have e' : bhN (dsR I ko) (fun l => oR I ko (19 + l)) m0 b0 (k + 1) = ((s.1 + (dsR I ko k s.2.1)), (oR I ko (19 + k)), (f_le s.2.2 (s.1 + (dsR I ko k s.2.1)))) := by
        unfold bhN
        rw [es]
        rw [if_neg c34]
      refine a_locs (lv' := [(5, .int (nI (k + 1))), (3, .int (s.1 + (dsR I ko k s.2.1))), (4, .int (oR I ko (19 + k))), (0, .ref 95), (2, .int b0)]) [0, 2, 1, 3, 4] rfl ?_
      exact ih (k + 1) (by omega) ((s.1 + (dsR I ko k s.2.1)), (oR I ko (19 + k)), (f_le s.2.2 (s.1 + (dsR I ko k s.2.1)))) e'
theorem c_M_behind {S : Nat × (Nat → Int32)} {d n : Nat} {I : mI} {J : mJ} {R : mR} {ko nl : Nat} (hn : 122 ≤ n) (hR : m_fin R) (ho : I 95 23 = nI ko) (hk : ko < 7) (hl : I 95 25 = nI nl) (hnl : nl ≤ 10) (hW : WFk I ko) {b0 : Int32} {h : Nat} (hh6 : h < 6)  : RUN S (d + 4) YM_behind [.ref 95, .int (nI h), .int b0] I J R n (some (.int (bhR I ko (oR I ko (3 + h)) b0 nl).1)) (m_row I 95 (va_up (I 95) 39 ((bhR I ko (oR I ko (3 + h)) b0 nl).2.2))) J R n := by
  show AW S _ YM_behind n n _ 0 [(0, .ref 95), (1, .int (nI h)), (2, .int b0)] [] I J R n
  refine a_aload_n 0 dM_behind_0 rfl rfl ?_
  refine a_iconstN (a := 3) dM_behind_1 (by decide) ?_
  refine a_iload_n 1 dM_behind_2 rfl rfl ?_
  refine a_iaddN (a := 3) (b := h) dM_behind_3 ?_
  refine a_callV (Q' := m_res (some (.int (oR I ko (3 + h)))) I J R) (as := [.int (nI (3 + h))]) (st := []) dM_behind_4 ml12_255 rfl (Nat.le_of_ble_eq_true rfl) ly_95 rfl rfl (by decide) (by omega) (Nat.le_of_ble_eq_true rfl) rfl (Nat.le_refl _) (Nat.le_refl _) (c_M_of hn hR (show I 95 23 = nI ko from ho) (by omega)) (m_go ?_)
  show AW _ _ _ _ _ _ _ _ [.int (oR I ko (3 + h))] _ _ _ _
  refine a_istore_n (lv' := [(3, .int (oR I ko (3 + h))), (0, .ref 95), (1, .int (nI h)), (2, .int b0)]) dM_behind_7 rfl (by decide) rfl ?_
  refine a_iconst (v := -1) dM_behind_8 (by decide) ?_
  refine a_istore (lv' := [(4, .int (-1)), (3, .int (oR I ko (3 + h))), (0, .ref 95), (1, .int (nI h)), (2, .int b0)]) dM_behind_9 (by decide) rfl ?_
  refine a_aload_n 2 dM_behind_11 rfl rfl ?_
  refine a_iload_n 1 dM_behind_12 rfl rfl ?_
  refine a_puti dM_behind_13 fl12_385 rfl ly_95 (by omega) ?_
  rw [m_up_row]
  refine a_iconstN (a := 0) dM_behind_16 (by decide) ?_
  refine a_istore (lv' := [(5, .int (nI 0)), (4, .int (-1)), (3, .int (oR I ko (3 + h))), (0, .ref 95), (1, .int (nI h)), (2, .int b0)]) dM_behind_17 (by decide) rfl ?_
  refine a_locs (lv' := [(5, .int (nI 0)), (3, .int (oR I ko (3 + h))), (4, .int (-1)), (0, .ref 95), (2, .int b0)]) [0, 2, 1, 3, 5] rfl ?_
  refine l_bhR  hn hR ho hk hl hnl hW (m0 := oR I ko (3 + h)) (b0 := b0) ?_ nl 0 (by omega) _ rfl
  refine a_iload_n 1 dM_behind_74 rfl rfl ?_
  exact a_iret dM_behind_75 rfl ⟨rfl, rfl, rfl, rfl⟩
