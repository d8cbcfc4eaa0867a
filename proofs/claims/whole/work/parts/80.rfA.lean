def lbR (I : mI) (ko : Nat) (B : Nat → Int32) (fr m : Nat) (u : Int32) : Int32 := if u = 0 then bsR I ko (fr + m - 1) - B (11 * (m - 1) + fr) else bsR I ko fr - B (11 * (m - 1) + fr + 1)
theorem c_M_leadBy {S : Nat × (Nat → Int32)} {d n : Nat} {I : mI} {J : mJ} {R : mR} {ko nh nl : Nat} (hn : 122 ≤ n) (hR : m_fin R) (ho : I 95 23 = nI ko) (hk : ko < 7) (hh : I 95 24 = nI nh) (hnh : nh ≤ 6) (hl : I 95 25 = nI nl) (hnl : nl ≤ 10) (hW : WFk I ko) {B : Nat → Int32} {fr m : Nat} {u : Int32} (hm : 1 ≤ m) (hfm : fr + m ≤ nl)  : RUN S (d + 3) YM_leadBy [.ref 95, .int (nI fr), .int (nI m), .int u] (m_row I 116 B) J R n (some (.int (lbR I ko B fr m u))) (m_row I 116 B) J R n := by
  show AW S _ YM_leadBy n n _ 0 [(0, .ref 95), (1, .int (nI fr)), (2, .int (nI m)), (3, .int u)] [] (m_row I 116 B) J R n
  refine a_iload_n 3 dM_leadBy_0 rfl rfl ?_
  refine a_if_eq (tgt := 28) dM_leadBy_1 (by decide) (fun c1 => ?_) (fun c1 => ?_)
  · refine a_aload_n 0 dM_leadBy_28 rfl rfl ?_
    refine a_iload_n 1 dM_leadBy_29 rfl rfl ?_
    refine a_iload_n 2 dM_leadBy_30 rfl rfl ?_
    refine a_iaddN (a := fr) (b := m) dM_leadBy_31 ?_
    refine a_iconstN (a := 1) dM_leadBy_32 (by decide) ?_
    refine a_isubN dM_leadBy_33 (by omega) ?_
    refine a_callV (Q' := m_res (some (.int (bsR I ko ((fr + m) - 1)))) (m_row I 116 B) J R) (as := [.int (nI ((fr + m) - 1))]) (st := []) dM_leadBy_34 ml12_274 rfl (Nat.le_of_ble_eq_true rfl) ly_95 rfl rfl (by decide) (by omega) (Nat.le_of_ble_eq_true rfl) rfl (Nat.le_refl _) (Nat.le_refl _) (c_M_base hn hR (show (m_row I 116 B) 95 23 = nI ko from ho) hk (by omega)) (m_go ?_)
    show AW _ _ _ _ _ _ _ _ [.int (bsR I ko ((fr + m) - 1))] _ _ _ _
    refine a_aload_n 0 dM_leadBy_37 rfl rfl ?_
    refine a_geta (r := 116) dM_leadBy_38 fl12_72 rfl ly_95 (by omega) (rf_95_46 hR) ?_
    refine a_bipushN (a := 11) dM_leadBy_41 (by decide) ?_
    refine a_iload_n 2 dM_leadBy_43 rfl rfl ?_
    refine a_iconstN (a := 1) dM_leadBy_44 (by decide) ?_
    refine a_isubN dM_leadBy_45 hm ?_
    refine a_imulN (a := 11) (b := (m - 1)) dM_leadBy_46 ?_
    refine a_iload_n 1 dM_leadBy_47 rfl rfl ?_
    refine a_iaddN (a := (11 * (m - 1))) (b := fr) dM_leadBy_48 ?_
    refine a_ialdN (a := ((11 * (m - 1)) + fr)) dM_leadBy_49 ly_116 (by omega) (by omega) (by decide) ?_
    rw [show (m_row I 116 B) 116 ((11 * (m - 1)) + fr) = B ((11 * (m - 1)) + fr) from rfl]
    refine a_isub dM_leadBy_50 ?_
    exact a_iret dM_leadBy_51 rfl ⟨by unfold lbR; rw [if_pos c1], rfl, rfl, rfl⟩
  · refine a_aload_n 0 dM_leadBy_4 rfl rfl ?_
    refine a_iload_n 1 dM_leadBy_5 rfl rfl ?_
    refine a_callV (Q' := m_res (some (.int (bsR I ko fr))) (m_row I 116 B) J R) (as := [.int (nI fr)]) (st := []) dM_leadBy_6 ml12_274 rfl (Nat.le_of_ble_eq_true rfl) ly_95 rfl rfl (by decide) (by omega) (Nat.le_of_ble_eq_true rfl) rfl (Nat.le_refl _) (Nat.le_refl _) (c_M_base hn hR (show (m_row I 116 B) 95 23 = nI ko from ho) hk (by omega)) (m_go ?_)
    show AW _ _ _ _ _ _ _ _ [.int (bsR I ko fr)] _ _ _ _
    refine a_aload_n 0 dM_leadBy_9 rfl rfl ?_
    refine a_geta (r := 116) dM_leadBy_10 fl12_72 rfl ly_95 (by omega) (rf_95_46 hR) ?_
    refine a_bipushN (a := 11) dM_leadBy_13 (by decide) ?_
    refine a_iload_n 2 dM_leadBy_15 rfl rfl ?_
    refine a_iconstN (a := 1) dM_leadBy_16 (by decide) ?_
    refine a_isubN dM_leadBy_17 hm ?_
    refine a_imulN (a := 11) (b := (m - 1)) dM_leadBy_18 ?_
    refine a_iload_n 1 dM_leadBy_19 rfl rfl ?_
    refine a_iaddN (a := (11 * (m - 1))) (b := fr) dM_leadBy_20 ?_
    refine a_iconstN (a := 1) dM_leadBy_21 (by decide) ?_
    refine a_iaddN (a := ((11 * (m - 1)) + fr)) (b := 1) dM_leadBy_22 ?_
    refine a_ialdN (a := (((11 * (m - 1)) + fr) + 1)) dM_leadBy_23 ly_116 (by omega) (by omega) (by decide) ?_
    rw [show (m_row I 116 B) 116 (((11 * (m - 1)) + fr) + 1) = B (((11 * (m - 1)) + fr) + 1) from rfl]
    refine a_isub dM_leadBy_24 ?_
    refine a_goto (tgt := 51) dM_leadBy_25 (by decide) ?_
    exact a_iret dM_leadBy_51 rfl ⟨by unfold lbR; rw [if_neg c1], rfl, rfl, rfl⟩
def soAS (I : mI) (ko t : Nat) (k : Nat) (s : (Nat → Int32)) : (Nat → Int32) := (if t = 0 then (va_up s ((11 * t) + k) (nI 0)) else (va_up s ((11 * t) + k) (f_gr (lbR I ko s k t (nI 1)) (lbR I ko s k t (nI 0)))))
def soA (I : mI) (ko t : Nat) (s0 : (Nat → Int32)) : Nat → (Nat → Int32)
  | 0 => s0
  | k + 1 => soAS I ko t k (soA I ko t s0 k)
theorem l_soA {S : Nat × (Nat → Int32)} {d n : Nat} {I : mI} {J : mJ} {R : mR} {ko nh nl : Nat} (hn : 122 ≤ n) (hR : m_fin R) (ho : I 95 23 = nI ko) (hk : ko < 7) (hh : I 95 24 = nI nh) (hnh : nh ≤ 6) (hl : I 95 25 = nI nl) (hnl : nl ≤ 10) (hW : WFk I ko) {u : Int32} {t : Nat} (ht : t ≤ nl)  {s0 : (Nat → Int32)} {Q : Option Value → mI → mJ → mR → Prop}  (hx : AW S (d + 4) YM_sorters n n Q 86 [(4, .int (nI (nl - t + 1))), (0, .ref 95), (2, .int u), (3, .int (nI t))] [] (m_row I 116 (soA I ko t s0 (nl - t + 1))) J R n) : ∀ m k, k + m = (nl - t + 1) → ∀ s : (Nat → Int32), soA I ko t s0 k = s → AW S (d + 4) YM_sorters n n Q 30 [(4, .int (nI k)), (0, .ref 95), (2, .int u), (3, .int (nI t))] [] (m_row I 116 s) J R n := by
  intro m
  induction m with
  | zero =>
    intro k hk9 s es
    rw [show k = (nl - t + 1) by omega] at es ⊢
    subst es
    refine a_iload 0 dM_sorters_30 rfl ?_
    refine a_iload_n 3 dM_sorters_32 rfl rfl ?_
    refine a_iaddN (a := (nl - t + 1)) (b := t) dM_sorters_33 ?_
    refine a_aload_n 1 dM_sorters_34 rfl rfl ?_
    refine a_geti dM_sorters_35 fl12_262 rfl ly_95 (by omega) ?_
    rw [show (m_row I 116 (soA I ko t s0 (nl - t + 1))) 95 25 = (nI nl) from hl]
    refine a_icmp_gtN (tgt := 86) dM_sorters_38 (by decide) (by omega) (by omega) (fun _ => ?_) (fun c => False.elim (by omega))
    exact hx
  | succ m ih =>
    intro k hk9 s es
    refine a_iload 0 dM_sorters_30 rfl ?_
    refine a_iload_n 3 dM_sorters_32 rfl rfl ?_
    refine a_iaddN (a := k) (b := t) dM_sorters_33 ?_
    refine a_aload_n 1 dM_sorters_34 rfl rfl ?_
    refine a_geti dM_sorters_35 fl12_262 rfl ly_95 (by omega) ?_
    rw [show (m_row I 116 s) 95 25 = (nI nl) from hl]
    refine a_icmp_gtN (tgt := 86) dM_sorters_38 (by decide) (by omega) (by omega) (fun c => False.elim (by omega)) (fun _ => ?_)
    refine a_aload_n 1 dM_sorters_41 rfl rfl ?_
    refine a_geta (r := 116) dM_sorters_42 fl12_72 rfl ly_95 (by omega) (rf_95_46 hR) ?_
    refine a_bipushN (a := 11) dM_sorters_45 (by decide) ?_
    refine a_iload_n 3 dM_sorters_47 rfl rfl ?_
    refine a_imulN (a := 11) (b := t) dM_sorters_48 ?_
    refine a_iload 0 dM_sorters_49 rfl ?_
    refine a_iaddN (a := (11 * t)) (b := k) dM_sorters_51 ?_
    by_cases hz : t = 0
    · refine a_iload_n 3 dM_sorters_52 rfl rfl ?_
      refine a_if_ne (tgt := 60) dM_sorters_53 (by decide) (fun c => False.elim (c (by rw [hz]; rfl))) (fun _ => ?_)
      refine a_iconstN (a := 0) dM_sorters_56 (by decide) ?_
      refine a_goto (tgt := 79) dM_sorters_57 (by decide) ?_
      refine a_iastN (a := ((11 * t) + k)) dM_sorters_79 ly_116 (by omega) (by omega) (by decide) ?_
      rw [show m_up (m_row I 116 s) 116 ((11 * t) + k) (nI 0) = (m_row I 116 (va_up s ((11 * t) + k) (nI 0))) from (by rw [m_up_r])]
      refine a_iincN (lv' := [(4, .int (nI (k + 1))), (0, .ref 95), (2, .int u), (3, .int (nI t))]) (j := 0) dM_sorters_80 rfl (by decide) rfl ?_
      refine a_goto (tgt := 30) dM_sorters_83 (by decide) ?_
      have ez9 : soA I ko t s0 (k + 1) = (va_up s ((11 * t) + k) (nI 0)) := by
        show soAS I ko t k (soA I ko t s0 k) = _
        rw [es]
        unfold soAS
        rw [if_pos hz]
      exact ih (k + 1) (by omega) (va_up s ((11 * t) + k) (nI 0)) ez9
    · refine a_iload_n 3 dM_sorters_52 rfl rfl ?_
      refine a_if_ne (tgt := 60) dM_sorters_53 (by decide) (fun _ => ?_) (fun c => False.elim (nI_ne0 (by omega) (by omega) c))
      refine a_aload_n 1 dM_sorters_60 rfl rfl ?_
      refine a_iload 0 dM_sorters_61 rfl ?_
      refine a_iload_n 3 dM_sorters_63 rfl rfl ?_
      refine a_iconstN (a := 1) dM_sorters_64 (by decide) ?_
      refine a_callV (Q' := m_res (some (.int (lbR I ko s k t (nI 1)))) (m_row I 116 s) J R) (as := [.int (nI k), .int (nI t), .int (nI 1)]) (st := [.int (nI ((11 * t) + k)), .ref 116]) dM_sorters_65 ml12_429 rfl (Nat.le_of_ble_eq_true rfl) ly_95 rfl rfl (by decide) (by omega) (Nat.le_of_ble_eq_true rfl) rfl (Nat.le_refl _) (Nat.le_refl _) (c_M_leadBy hn hR ho hk hh hnh hl hnl hW (by omega) (by omega)) (m_go ?_)
      show AW _ _ _ _ _ _ _ _ [.int (lbR I ko s k t (nI 1)), .int (nI ((11 * t) + k)), .ref 116] _ _ _ _
      refine a_aload_n 1 dM_sorters_68 rfl rfl ?_
      refine a_iload 0 dM_sorters_69 rfl ?_
      refine a_iload_n 3 dM_sorters_71 rfl rfl ?_
      refine a_iconstN (a := 0) dM_sorters_72 (by decide) ?_
      refine a_callV (Q' := m_res (some (.int (lbR I ko s k t (nI 0)))) (m_row I 116 s) J R) (as := [.int (nI k), .int (nI t), .int (nI 0)]) (st := [.int (lbR I ko s k t (nI 1)), .int (nI ((11 * t) + k)), .ref 116]) dM_sorters_73 ml12_429 rfl (Nat.le_of_ble_eq_true rfl) ly_95 rfl rfl (by decide) (by omega) (Nat.le_of_ble_eq_true rfl) rfl (Nat.le_refl _) (Nat.le_refl _) (c_M_leadBy hn hR ho hk hh hnh hl hnl hW (by omega) (by omega)) (m_go ?_)
      show AW _ _ _ _ _ _ _ _ [.int (lbR I ko s k t (nI 0)), .int (lbR I ko s k t (nI 1)), .int (nI ((11 * t) + k)), .ref 116] _ _ _ _
      refine a_callS (Q' := m_res (some (.int (f_gr (lbR I ko s k t (nI 1)) (lbR I ko s k t (nI 0))))) (m_row I 116 s) J R) (as := [.int (lbR I ko s k t (nI 1)), .int (lbR I ko s k t (nI 0))]) (st := [.int (nI ((11 * t) + k)), .ref 116]) dM_sorters_76 ml12_167 rfl (Nat.le_of_ble_eq_true rfl) (Nat.le_of_ble_eq_true rfl) rfl (Nat.le_refl _) (Nat.le_refl _) c_M_greater (m_go ?_)
      show AW _ _ _ _ _ _ _ _ [.int (f_gr (lbR I ko s k t (nI 1)) (lbR I ko s k t (nI 0))), .int (nI ((11 * t) + k)), .ref 116] _ _ _ _
      refine a_iastN (a := ((11 * t) + k)) dM_sorters_79 ly_116 (by omega) (by omega) (by decide) ?_
      rw [show m_up (m_row I 116 s) 116 ((11 * t) + k) (f_gr (lbR I ko s k t (nI 1)) (lbR I ko s k t (nI 0))) = (m_row I 116 (va_up s ((11 * t) + k) (f_gr (lbR I ko s k t (nI 1)) (lbR I ko s k t (nI 0))))) from (by rw [m_up_r])]
      refine a_iincN (lv' := [(4, .int (nI (k + 1))), (0, .ref 95), (2, .int u), (3, .int (nI t))]) (j := 0) dM_sorters_80 rfl (by decide) rfl ?_
      refine a_goto (tgt := 30) dM_sorters_83 (by decide) ?_
      have ez9 : soA I ko t s0 (k + 1) = (va_up s ((11 * t) + k) (f_gr (lbR I ko s k t (nI 1)) (lbR I ko s k t (nI 0)))) := by
        show soAS I ko t k (soA I ko t s0 k) = _
        rw [es]
        unfold soAS
        rw [if_neg hz]
      exact ih (k + 1) (by omega) (va_up s ((11 * t) + k) (f_gr (lbR I ko s k t (nI 1)) (lbR I ko s k t (nI 0)))) ez9
def soBS (I : mI) (ko nl : Nat) (k : Nat) (s : (Nat → Int32)) : (Nat → Int32) := (soA I ko k s (nl - k + 1))
def soB (I : mI) (ko nl : Nat) (s0 : (Nat → Int32)) : Nat → (Nat → Int32)
  | 0 => s0
  | k + 1 => soBS I ko nl k (soB I ko nl s0 k)
theorem l_soB {S : Nat × (Nat → Int32)} {d n : Nat} {I : mI} {J : mJ} {R : mR} {ko nh nl : Nat} (hn : 122 ≤ n) (hR : m_fin R) (ho : I 95 23 = nI ko) (hk : ko < 7) (hh : I 95 24 = nI nh) (hnh : nh ≤ 6) (hl : I 95 25 = nI nl) (hnl : nl ≤ 10) (hW : WFk I ko) {u : Int32}  {s0 : (Nat → Int32)} {Q : Option Value → mI → mJ → mR → Prop}  (hx : AW S (d + 4) YM_sorters n n Q 92 [(3, .int (nI (nl + 1))), (0, .ref 95), (2, .int u)] [] (m_row I 116 (soB I ko nl s0 (nl + 1))) J R n) : ∀ m k, k + m = (nl + 1) → ∀ s : (Nat → Int32), soB I ko nl s0 k = s → AW S (d + 4) YM_sorters n n Q 19 [(3, .int (nI k)), (0, .ref 95), (2, .int u)] [] (m_row I 116 s) J R n := by
  intro m
  induction m with
  | zero =>
    intro k hk9 s es
    rw [show k = (nl + 1) by omega] at es ⊢
    subst es
    refine a_iload_n 0 dM_sorters_19 rfl rfl ?_
    refine a_aload_n 1 dM_sorters_20 rfl rfl ?_
    refine a_geti dM_sorters_21 fl12_262 rfl ly_95 (by omega) ?_
    rw [show (m_row I 116 (soB I ko nl s0 (nl + 1))) 95 25 = (nI nl) from hl]
    refine a_icmp_gtN (tgt := 92) dM_sorters_24 (by decide) (by omega) (by omega) (fun _ => ?_) (fun c => False.elim (by omega))
    exact hx
  | succ m ih =>
    intro k hk9 s es
    refine a_iload_n 0 dM_sorters_19 rfl rfl ?_
    refine a_aload_n 1 dM_sorters_20 rfl rfl ?_
    refine a_geti dM_sorters_21 fl12_262 rfl ly_95 (by omega) ?_
    rw [show (m_row I 116 s) 95 25 = (nI nl) from hl]
    refine a_icmp_gtN (tgt := 92) dM_sorters_24 (by decide) (by omega) (by omega) (fun c => False.elim (by omega)) (fun _ => ?_)
    refine a_iconstN (a := 0) dM_sorters_27 (by decide) ?_
    refine a_istore (lv' := [(4, .int (nI 0)), (3, .int (nI k)), (0, .ref 95), (2, .int u)]) dM_sorters_28 (by decide) rfl ?_
    refine a_locs (lv' := [(4, .int (nI 0)), (0, .ref 95), (2, .int u), (3, .int (nI k))]) [0, 2, 3, 1] rfl ?_
    refine l_soA (s0 := s) hn hR ho hk hh hnh hl hnl hW (t := k) (by omega) ?_ (nl - k + 1) 0 (by omega) _ rfl
    refine a_iincN (lv' := [(3, .int (nI (k + 1))), (4, .int (nI (nl - k + 1))), (0, .ref 95), (2, .int u)]) (j := 3) dM_sorters_86 rfl (by decide) rfl ?_
    refine a_goto (tgt := 19) dM_sorters_89 (by decide) ?_
    have ez9 : soB I ko nl s0 (k + 1) = (soA I ko k s (nl - k + 1)) := by
      show soBS I ko nl k (soB I ko nl s0 k) = _
      rw [es]
      unfold soBS
      rfl
    refine a_locs (lv' := [(3, .int (nI (k + 1))), (0, .ref 95), (2, .int u)]) [0, 2, 3] rfl ?_
    exact ih (k + 1) (by omega) (soA I ko k s (nl - k + 1)) ez9
abbrev soT (I : mI) (ko nl : Nat) : Nat → Int32 := soB I ko nl (I 116) (nl + 1)
def soR (I : mI) (ko nl : Nat) (u : Int32) : Int32 := if u = 0 then soT I ko nl (11 * nl) else if nl = 0 then -1 else if lbR I ko (soT I ko nl) 0 nl (nI 1) = soT I ko nl (11 * nl) then 0 else 1
theorem M116_self {I : mI} : m_row I 116 (I 116) = I := m_row_self
theorem b_M_sorters {S : Nat × (Nat → Int32)} {d n : Nat} {I : mI} {J : mJ} {R : mR} {ko nh nl : Nat} (hn : 122 ≤ n) (hR : m_fin R) (ho : I 95 23 = nI ko) (hk : ko < 7) (hh : I 95 24 = nI nh) (hnh : nh ≤ 6) (hl : I 95 25 = nI nl) (hnl : nl ≤ 10) (hW : WFk I ko) {u : Int32}  {Q : Option Value → mI → mJ → mR → Prop} (hQ : ∀ B, Q (some (.int (soR I ko nl u))) (m_row I 116 B) J R) : AW S (d + 4) YM_sorters n n Q 17 [(0, .ref 95), (2, .int u)] [] I J R n := by
  refine a_iconstN (a := 0) dM_sorters_17 (by decide) ?_
  refine a_istore_n (lv' := [(3, .int (nI 0)), (0, .ref 95), (2, .int u)]) dM_sorters_18 rfl (by decide) rfl ?_
  refine a_mem M116_self.symm ?_
  refine l_soB (s0 := (I 116)) hn hR ho hk hh hnh hl hnl hW (u := u) ?_ (nl + 1) 0 (by omega) _ rfl
  refine a_aload_n 1 dM_sorters_92 rfl rfl ?_
  refine a_geta (r := 116) dM_sorters_93 fl12_72 rfl ly_95 (by omega) (rf_95_46 hR) ?_
  refine a_bipushN (a := 11) dM_sorters_96 (by decide) ?_
  refine a_aload_n 1 dM_sorters_98 rfl rfl ?_
  refine a_geti dM_sorters_99 fl12_262 rfl ly_95 (by omega) ?_
  rw [show (m_row I 116 (soB I ko nl (I 116) (nl + 1))) 95 25 = (nI nl) from hl]
  refine a_imulN (a := 11) (b := nl) dM_sorters_102 ?_
  refine a_ialdN (a := (11 * nl)) dM_sorters_103 ly_116 (by omega) (by omega) (by decide) ?_
  rw [show (m_row I 116 (soB I ko nl (I 116) (nl + 1))) 116 (11 * nl) = (soB I ko nl (I 116) (nl + 1)) (11 * nl) from rfl]
  refine a_istore_n (lv' := [(3, .int ((soB I ko nl (I 116) (nl + 1)) (11 * nl))), (0, .ref 95), (2, .int u)]) dM_sorters_104 rfl (by decide) rfl ?_
  by_cases hz : nl = 0
  · refine a_iload_n 2 dM_sorters_105 rfl rfl ?_
    refine a_if_ne (tgt := 113) dM_sorters_106 (by decide) (fun c106 => ?_) (fun c106 => ?_)
    · refine a_aload_n 1 dM_sorters_113 rfl rfl ?_
      refine a_geti dM_sorters_114 fl12_262 rfl ly_95 (by omega) ?_
      rw [show (m_row I 116 (soB I ko nl (I 116) (nl + 1))) 95 25 = (nI nl) from hl]
      refine a_if_ne (tgt := 124) dM_sorters_117 (by decide) (fun c => False.elim (c (by rw [hz]; rfl))) (fun _ => ?_)
      refine a_iconst (v := -1) dM_sorters_120 (by decide) ?_
      refine a_goto (tgt := 143) dM_sorters_121 (by decide) ?_
      exact a_iret dM_sorters_143 rfl (by have h := hQ (soT I ko nl); unfold soR at h; rw [if_neg c106, if_pos hz] at h; exact h)
    · refine a_iload_n 0 dM_sorters_109 rfl rfl ?_
      refine a_goto (tgt := 143) dM_sorters_110 (by decide) ?_
      exact a_iret dM_sorters_143 rfl (by have h := hQ (soT I ko nl); unfold soR at h; rw [if_pos c106] at h; exact h)
  · refine a_iload_n 2 dM_sorters_105 rfl rfl ?_
    refine a_if_ne (tgt := 113) dM_sorters_106 (by decide) (fun c106 => ?_) (fun c106 => ?_)
    · refine a_aload_n 1 dM_sorters_113 rfl rfl ?_
      refine a_geti dM_sorters_114 fl12_262 rfl ly_95 (by omega) ?_
      rw [show (m_row I 116 (soB I ko nl (I 116) (nl + 1))) 95 25 = (nI nl) from hl]
      refine a_if_ne (tgt := 124) dM_sorters_117 (by decide) (fun _ => ?_) (fun c => False.elim (nI_ne0 (by omega) (by omega) c))
      refine a_aload_n 1 dM_sorters_124 rfl rfl ?_
      refine a_iconstN (a := 0) dM_sorters_125 (by decide) ?_
      refine a_aload_n 1 dM_sorters_126 rfl rfl ?_
      refine a_geti dM_sorters_127 fl12_262 rfl ly_95 (by omega) ?_
      rw [show (m_row I 116 (soB I ko nl (I 116) (nl + 1))) 95 25 = (nI nl) from hl]
      refine a_iconstN (a := 1) dM_sorters_130 (by decide) ?_
      refine a_callV (Q' := m_res (some (.int (lbR I ko (soB I ko nl (I 116) (nl + 1)) 0 nl (nI 1)))) (m_row I 116 (soB I ko nl (I 116) (nl + 1))) J R) (as := [.int (nI 0), .int (nI nl), .int (nI 1)]) (st := []) dM_sorters_131 ml12_429 rfl (Nat.le_of_ble_eq_true rfl) ly_95 rfl rfl (by decide) (by omega) (Nat.le_of_ble_eq_true rfl) rfl (Nat.le_refl _) (Nat.le_refl _) (c_M_leadBy hn hR ho hk hh hnh hl hnl hW (by omega) (by omega)) (m_go ?_)
      show AW _ _ _ _ _ _ _ _ [.int (lbR I ko (soB I ko nl (I 116) (nl + 1)) 0 nl (nI 1))] _ _ _ _
      refine a_iload_n 0 dM_sorters_134 rfl rfl ?_
      refine a_icmp_ne (tgt := 142) dM_sorters_135 (by decide) (fun c135 => ?_) (fun c135 => ?_)
      · refine a_iconstN (a := 1) dM_sorters_142 (by decide) ?_
        exact a_iret dM_sorters_143 rfl (by have h := hQ (soT I ko nl); unfold soR at h; rw [if_neg c106, if_neg hz, if_neg c135] at h; exact h)
      · refine a_iconstN (a := 0) dM_sorters_138 (by decide) ?_
        refine a_goto (tgt := 143) dM_sorters_139 (by decide) ?_
        exact a_iret dM_sorters_143 rfl (by have h := hQ (soT I ko nl); unfold soR at h; rw [if_neg c106, if_neg hz, if_pos c135] at h; exact h)
    · refine a_iload_n 0 dM_sorters_109 rfl rfl ?_
      refine a_goto (tgt := 143) dM_sorters_110 (by decide) ?_
      exact a_iret dM_sorters_143 rfl (by have h := hQ (soT I ko nl); unfold soR at h; rw [if_pos c106] at h; exact h)
def awNS (s9 : cS) (k : Nat) (s : Int32 × Int32) : Int32 × Int32 := (if (s9.1 k) < s.1 then ((f_le s.1 (s9.1 k)), (nI k)) else (if (s9.1 k) = s.1 then (if s.2 ≤ (nI k) then ((f_le s.1 (s9.1 k)), s.2) else ((f_le s.1 (s9.1 k)), (nI k))) else ((f_le s.1 (s9.1 k)), s.2)))
def awN (s9 : cS) (s0 : Int32 × Int32) : Nat → Int32 × Int32
  | 0 => s0
  | k + 1 => awNS s9 k (awN s9 s0 k)
theorem l_awN {S : Nat × (Nat → Int32)} {d n : Nat} {I : mI} {J : mJ} {R : mR} {ko nh nl : Nat} (hn : 122 ≤ n) (hR : m_fin R) (ho : I 95 23 = nI ko) (hk : ko < 7) (hh : I 95 24 = nI nh) (hnh : nh ≤ 6) (hl : I 95 25 = nI nl) (hnl : nl ≤ 10) (hW : WFk I ko) {s9 : cS} {x kk c0 : Int32}  {s0 : Int32 × Int32} {Q : Option Value → mI → mJ → mR → Prop}  (hx : AW S (d + 8) YM_after n n Q 122 [(8, .int (nI nh)), (4, .int (awN s9 s0 nh).2), (5, .int (awN s9 s0 nh).1), (0, .ref 95), (3, .int x), (6, .int c0), (7, .int kk)] [] (crT I s9) J R n) : ∀ m k, k + m = nh → ∀ s : Int32 × Int32, awN s9 s0 k = s → AW S (d + 8) YM_after n n Q 53 [(8, .int (nI k)), (4, .int s.2), (5, .int s.1), (0, .ref 95), (3, .int x), (6, .int c0), (7, .int kk)] [] (crT I s9) J R n := by
  intro m
  induction m with
  | zero =>
    intro k hk9 s es
    rw [show k = nh by omega] at es ⊢
    subst es
    refine a_iload 0 dM_after_53 rfl ?_
    refine a_aload_n 3 dM_after_55 rfl rfl ?_
    refine a_geti dM_after_56 fl12_259 rfl ly_95 (by omega) ?_
    rw [show (crT I s9) 95 24 = (nI nh) from ((crR_f (by decide)).trans hh)]
    refine a_icmp_geN (tgt := 122) dM_after_59 (by decide) (by omega) (by omega) (fun _ => ?_) (fun c => False.elim (by omega))
    exact hx
  | succ m ih =>
    intro k hk9 s es
    refine a_iload 0 dM_after_53 rfl ?_
    refine a_aload_n 3 dM_after_55 rfl rfl ?_
    refine a_geti dM_after_56 fl12_259 rfl ly_95 (by omega) ?_
    rw [show (crT I s9) 95 24 = (nI nh) from ((crR_f (by decide)).trans hh)]
    refine a_icmp_geN (tgt := 122) dM_after_59 (by decide) (by omega) (by omega) (fun c => False.elim (by omega)) (fun _ => ?_)
    refine a_aload_n 3 dM_after_62 rfl rfl ?_
    refine a_geta (r := 107) dM_after_63 fl12_44 rfl ly_95 (by omega) (rf_95_27 hR) ?_
    refine a_iload 0 dM_after_66 rfl ?_
    refine a_ialdN (a := k) dM_after_68 ly_107 (by omega) (by omega) (by decide) ?_
    rw [show (crT I s9) 107 k = s9.1 k from (congrFun crR_107 _)]
    refine a_iload 2 dM_after_69 rfl ?_
    refine a_icmp_lt (tgt := 93) dM_after_71 (by decide) (fun c71 => ?_) (fun c71 => ?_)
    · refine a_iload 0 dM_after_93 rfl ?_
      refine a_goto (tgt := 100) dM_after_95 (by decide) ?_
      refine a_istore (lv' := [(4, .int (nI k)), (8, .int (nI k)), (5, .int s.1), (0, .ref 95), (3, .int x), (6, .int c0), (7, .int kk)]) dM_after_100 (by decide) rfl ?_
      refine a_iload 2 dM_after_102 rfl ?_
      refine a_aload_n 3 dM_after_104 rfl rfl ?_
      refine a_geta (r := 107) dM_after_105 fl12_44 rfl ly_95 (by omega) (rf_95_27 hR) ?_
      refine a_iload 1 dM_after_108 rfl ?_
      refine a_ialdN (a := k) dM_after_110 ly_107 (by omega) (by omega) (by decide) ?_
      rw [show (crT I s9) 107 k = s9.1 k from (congrFun crR_107 _)]
      refine a_callS (Q' := m_res (some (.int (f_le s.1 (s9.1 k)))) (crT I s9) J R) (as := [.int s.1, .int (s9.1 k)]) (st := []) dM_after_111 ml12_355 rfl (Nat.le_of_ble_eq_true rfl) (Nat.le_of_ble_eq_true rfl) rfl (Nat.le_refl _) (Nat.le_refl _) c_M_lesser (m_go ?_)
      show AW _ _ _ _ _ _ _ _ [.int (f_le s.1 (s9.1 k))] _ _ _ _
      refine a_istore (lv' := [(5, .int (f_le s.1 (s9.1 k))), (4, .int (nI k)), (8, .int (nI k)), (0, .ref 95), (3, .int x), (6, .int c0), (7, .int kk)]) dM_after_114 (by decide) rfl ?_
      refine a_iincN (lv' := [(8, .int (nI (k + 1))), (5, .int (f_le s.1 (s9.1 k))), (4, .int (nI k)), (0, .ref 95), (3, .int x), (6, .int c0), (7, .int kk)]) (j := 2) dM_after_116 rfl (by decide) rfl ?_
      refine a_goto (tgt := 53) dM_after_119 (by decide) ?_
      have ez9 : awN s9 s0 (k + 1) = ((f_le s.1 (s9.1 k)), (nI k)) := by
        show awNS s9 k (awN s9 s0 k) = _
        rw [es]
        unfold awNS
        rw [if_pos c71]
      refine a_locs (lv' := [(8, .int (nI (k + 1))), (4, .int (nI k)), (5, .int (f_le s.1 (s9.1 k))), (0, .ref 95), (3, .int x), (6, .int c0), (7, .int kk)]) [0, 2, 1, 3, 4, 5, 6] rfl ?_
      exact ih (k + 1) (by omega) ((f_le s.1 (s9.1 k)), (nI k)) ez9
    · refine a_aload_n 3 dM_after_74 rfl rfl ?_
      refine a_geta (r := 107) dM_after_75 fl12_44 rfl ly_95 (by omega) (rf_95_27 hR) ?_
      refine a_iload 0 dM_after_78 rfl ?_
      refine a_ialdN (a := k) dM_after_80 ly_107 (by omega) (by omega) (by decide) ?_
      rw [show (crT I s9) 107 k = s9.1 k from (congrFun crR_107 _)]
      refine a_iload 2 dM_after_81 rfl ?_
      refine a_icmp_ne (tgt := 98) dM_after_83 (by decide) (fun c83 => ?_) (fun c83 => ?_)
      · refine a_iload 1 dM_after_98 rfl ?_
        refine a_istore (lv' := [(4, .int s.2), (8, .int (nI k)), (5, .int s.1), (0, .ref 95), (3, .int x), (6, .int c0), (7, .int kk)]) dM_after_100 (by decide) rfl ?_
        refine a_iload 2 dM_after_102 rfl ?_
        refine a_aload_n 3 dM_after_104 rfl rfl ?_
        refine a_geta (r := 107) dM_after_105 fl12_44 rfl ly_95 (by omega) (rf_95_27 hR) ?_
        refine a_iload 1 dM_after_108 rfl ?_
        refine a_ialdN (a := k) dM_after_110 ly_107 (by omega) (by omega) (by decide) ?_
        rw [show (crT I s9) 107 k = s9.1 k from (congrFun crR_107 _)]
        refine a_callS (Q' := m_res (some (.int (f_le s.1 (s9.1 k)))) (crT I s9) J R) (as := [.int s.1, .int (s9.1 k)]) (st := []) dM_after_111 ml12_355 rfl (Nat.le_of_ble_eq_true rfl) (Nat.le_of_ble_eq_true rfl) rfl (Nat.le_refl _) (Nat.le_refl _) c_M_lesser (m_go ?_)
        show AW _ _ _ _ _ _ _ _ [.int (f_le s.1 (s9.1 k))] _ _ _ _
        refine a_istore (lv' := [(5, .int (f_le s.1 (s9.1 k))), (4, .int s.2), (8, .int (nI k)), (0, .ref 95), (3, .int x), (6, .int c0), (7, .int kk)]) dM_after_114 (by decide) rfl ?_
        refine a_iincN (lv' := [(8, .int (nI (k + 1))), (5, .int (f_le s.1 (s9.1 k))), (4, .int s.2), (0, .ref 95), (3, .int x), (6, .int c0), (7, .int kk)]) (j := 2) dM_after_116 rfl (by decide) rfl ?_
        refine a_goto (tgt := 53) dM_after_119 (by decide) ?_
        have ez9 : awN s9 s0 (k + 1) = ((f_le s.1 (s9.1 k)), s.2) := by
          show awNS s9 k (awN s9 s0 k) = _
          rw [es]
          unfold awNS
          rw [if_neg c71, if_neg c83]
        refine a_locs (lv' := [(8, .int (nI (k + 1))), (4, .int s.2), (5, .int (f_le s.1 (s9.1 k))), (0, .ref 95), (3, .int x), (6, .int c0), (7, .int kk)]) [0, 2, 1, 3, 4, 5, 6] rfl ?_
        exact ih (k + 1) (by omega) ((f_le s.1 (s9.1 k)), s.2) ez9
      · refine a_iload 0 dM_after_86 rfl ?_
        refine a_iload 1 dM_after_88 rfl ?_
        refine a_icmp_ge (tgt := 98) dM_after_90 (by decide) (fun c90 => ?_) (fun c90 => ?_)
        · refine a_iload 1 dM_after_98 rfl ?_
          refine a_istore (lv' := [(4, .int s.2), (8, .int (nI k)), (5, .int s.1), (0, .ref 95), (3, .int x), (6, .int c0), (7, .int kk)]) dM_after_100 (by decide) rfl ?_
          refine a_iload 2 dM_after_102 rfl ?_
          refine a_aload_n 3 dM_after_104 rfl rfl ?_
          refine a_geta (r := 107) dM_after_105 fl12_44 rfl ly_95 (by omega) (rf_95_27 hR) ?_
          refine a_iload 1 dM_after_108 rfl ?_
          refine a_ialdN (a := k) dM_after_110 ly_107 (by omega) (by omega) (by decide) ?_
          rw [show (crT I s9) 107 k = s9.1 k from (congrFun crR_107 _)]
          refine a_callS (Q' := m_res (some (.int (f_le s.1 (s9.1 k)))) (crT I s9) J R) (as := [.int s.1, .int (s9.1 k)]) (st := []) dM_after_111 ml12_355 rfl (Nat.le_of_ble_eq_true rfl) (Nat.le_of_ble_eq_true rfl) rfl (Nat.le_refl _) (Nat.le_refl _) c_M_lesser (m_go ?_)
          show AW _ _ _ _ _ _ _ _ [.int (f_le s.1 (s9.1 k))] _ _ _ _
          refine a_istore (lv' := [(5, .int (f_le s.1 (s9.1 k))), (4, .int s.2), (8, .int (nI k)), (0, .ref 95), (3, .int x), (6, .int c0), (7, .int kk)]) dM_after_114 (by decide) rfl ?_
          refine a_iincN (lv' := [(8, .int (nI (k + 1))), (5, .int (f_le s.1 (s9.1 k))), (4, .int s.2), (0, .ref 95), (3, .int x), (6, .int c0), (7, .int kk)]) (j := 2) dM_after_116 rfl (by decide) rfl ?_
          refine a_goto (tgt := 53) dM_after_119 (by decide) ?_
          have ez9 : awN s9 s0 (k + 1) = ((f_le s.1 (s9.1 k)), s.2) := by
            show awNS s9 k (awN s9 s0 k) = _
            rw [es]
            unfold awNS
            rw [if_neg c71, if_pos c83, if_pos c90]
          refine a_locs (lv' := [(8, .int (nI (k + 1))), (4, .int s.2), (5, .int (f_le s.1 (s9.1 k))), (0, .ref 95), (3, .int x), (6, .int c0), (7, .int kk)]) [0, 2, 1, 3, 4, 5, 6] rfl ?_
          exact ih (k + 1) (by omega) ((f_le s.1 (s9.1 k)), s.2) ez9
        · refine a_iload 0 dM_after_93 rfl ?_
          refine a_goto (tgt := 100) dM_after_95 (by decide) ?_
          refine a_istore (lv' := [(4, .int (nI k)), (8, .int (nI k)), (5, .int s.1), (0, .ref 95), (3, .int x), (6, .int c0), (7, .int kk)]) dM_after_100 (by decide) rfl ?_
          refine a_iload 2 dM_after_102 rfl ?_
          refine a_aload_n 3 dM_after_104 rfl rfl ?_
          refine a_geta (r := 107) dM_after_105 fl12_44 rfl ly_95 (by omega) (rf_95_27 hR) ?_
          refine a_iload 1 dM_after_108 rfl ?_
          refine a_ialdN (a := k) dM_after_110 ly_107 (by omega) (by omega) (by decide) ?_
          rw [show (crT I s9) 107 k = s9.1 k from (congrFun crR_107 _)]
          refine a_callS (Q' := m_res (some (.int (f_le s.1 (s9.1 k)))) (crT I s9) J R) (as := [.int s.1, .int (s9.1 k)]) (st := []) dM_after_111 ml12_355 rfl (Nat.le_of_ble_eq_true rfl) (Nat.le_of_ble_eq_true rfl) rfl (Nat.le_refl _) (Nat.le_refl _) c_M_lesser (m_go ?_)
          show AW _ _ _ _ _ _ _ _ [.int (f_le s.1 (s9.1 k))] _ _ _ _
          refine a_istore (lv' := [(5, .int (f_le s.1 (s9.1 k))), (4, .int (nI k)), (8, .int (nI k)), (0, .ref 95), (3, .int x), (6, .int c0), (7, .int kk)]) dM_after_114 (by decide) rfl ?_
          refine a_iincN (lv' := [(8, .int (nI (k + 1))), (5, .int (f_le s.1 (s9.1 k))), (4, .int (nI k)), (0, .ref 95), (3, .int x), (6, .int c0), (7, .int kk)]) (j := 2) dM_after_116 rfl (by decide) rfl ?_
          refine a_goto (tgt := 53) dM_after_119 (by decide) ?_
          have ez9 : awN s9 s0 (k + 1) = ((f_le s.1 (s9.1 k)), (nI k)) := by
            show awNS s9 k (awN s9 s0 k) = _
            rw [es]
            unfold awNS
            rw [if_neg c71, if_pos c83, if_neg c90]
          refine a_locs (lv' := [(8, .int (nI (k + 1))), (4, .int (nI k)), (5, .int (f_le s.1 (s9.1 k))), (0, .ref 95), (3, .int x), (6, .int c0), (7, .int kk)]) [0, 2, 1, 3, 4, 5, 6] rfl ?_
          exact ih (k + 1) (by omega) ((f_le s.1 (s9.1 k)), (nI k)) ez9
theorem awN_lw {s9 : cS} {p : Int32 × Int32} : ∀ k, awN s9 p k = lwN s9.1 p k := by
  intro k
  induction k with
  | zero => rfl
  | succ k ih =>
    show awNS s9 k (awN s9 p k) = (if s9.1 k < (lwN s9.1 p k).1 then (s9.1 k, nI k) else if s9.1 k = (lwN s9.1 p k).1 then (if (lwN s9.1 p k).2 ≤ nI k then lwN s9.1 p k else (s9.1 k, nI k)) else lwN s9.1 p k)
    rw [ih]
    generalize lwN s9.1 p k = q
    unfold awNS f_le
    by_cases h1 : s9.1 k < q.1
    · rw [if_pos h1, if_pos h1, if_neg (Int32.not_lt.mpr (Int32.le_of_lt h1))]
    · rw [if_neg h1, if_neg h1]
      by_cases h2 : s9.1 k = q.1
      · rw [if_pos h2, if_pos h2]
        by_cases h3 : q.2 ≤ nI k
        · rw [if_pos h3, if_pos h3, h2, if_neg Int32.lt_irrefl]
        · rw [if_neg h3, if_neg h3, h2, if_neg Int32.lt_irrefl]
      · rw [if_neg h2, if_neg h2, if_pos (Int32.lt_of_le_of_ne (Int32.not_lt.mp h1) (fun q9 => h2 q9.symm))]
/-- deeds as far as they can be done, with a look at all houses ahead of each and at the end -/
def afG (stp : Nat → cS → Option cS) (nh : Nat) : Nat → Nat → cS → Int32 × Int32 → cS × (Int32 × Int32)
  | 0, _, s, p => (s, lwN s.1 p nh)
  | m + 1, k, s, p => match stp k s with
    | none => (s, lwN s.1 p nh)
    | some s' => afG stp nh m (k + 1) s' (lwN s.1 p nh)
theorem l_after {S : Nat × (Nat → Int32)} {d n : Nat} {I : mI} {J : mJ} {R : mR} {ko nh nl : Nat} (hn : 122 ≤ n) (hR : m_fin R) (ho : I 95 23 = nI ko) (hk : ko < 7) (hh : I 95 24 = nI nh) (hnh : nh ≤ 6) (hl : I 95 25 = nI nl) (hnl : nl ≤ 10) (hW : WFk I ko) {kw c : Nat} (hkw : I 95 31 = nI kw) (hw2 : kw < 2) (hH : WFh (I 106) nl) (hcc : I 102 (121 * kw) = nI c) (hc : c ≤ 40) (hww : WFw I kw c) {x : Int32} {Q : Option Value → mI → mJ → mR → Prop} : ∀ m k (s : cS) (p : Int32 × Int32), k + m = c → WFl s.2.1 → (∀ s9 p9 kk c9, afG (stR I ko nh nl kw) nh m k s p = (s9, p9) → AW S (d + 8) YM_after n n Q 153 [(7, .int kk), (4, .int p9.2), (5, .int p9.1), (6, .int c9), (0, .ref 95), (3, .int x)] [] (crT I s9) J R n) → AW S (d + 8) YM_after n n Q 45 [(7, .int (nI k)), (4, .int p.2), (5, .int p.1), (6, .int (nI 1)), (0, .ref 95), (3, .int x)] [] (crT I s) J R n := by
  intro m
  induction m with
  | zero =>
    intro k s9 p hk9 hL hx
    refine a_iload 3 dM_after_45 rfl ?_
    refine a_if_eq (tgt := 153) dM_after_47 (by decide) (fun c => False.elim (absurd c (by decide))) (fun _ => ?_)
    refine a_iconstN (a := 0) dM_after_50 (by decide) ?_
    refine a_istore (lv' := [(8, .int (nI 0)), (7, .int (nI k)), (4, .int p.2), (5, .int p.1), (6, .int (nI 1)), (0, .ref 95), (3, .int x)]) dM_after_51 (by decide) rfl ?_
    refine a_locs (lv' := [(8, .int (nI 0)), (4, .int p.2), (5, .int p.1), (0, .ref 95), (3, .int x), (6, .int (nI 1)), (7, .int (nI k))]) [0, 2, 3, 5, 6, 4, 1] rfl ?_
    refine l_awN (s0 := p) hn hR ho hk hh hnh hl hnl hW ?_ nh 0 (by omega) _ rfl
    rw [awN_lw]
    refine a_iload 6 dM_after_122 rfl ?_
    refine a_aload_n 3 dM_after_124 rfl rfl ?_
    refine a_callV (Q' := m_res (some (.int (nI c))) (crT I s9) J R) (as := []) (st := [.int (nI k)]) dM_after_125 ml12_292 rfl (Nat.le_of_ble_eq_true rfl) ly_95 rfl rfl (by decide) (by omega) (Nat.le_of_ble_eq_true rfl) rfl (Nat.le_refl _) (Nat.le_refl _) (by have h := c_M_deeds (S := S) (d := d + 7) (n := n) (J := J) (R := R) (I := crT I s9) (kw := kw) hn hR ((crR_f (by decide)).trans hkw) (by omega); rw [show (crT I s9) 102 (121 * kw) = nI c from (congrFun (crR_o (by decide) (by decide) (by decide) (by decide)) _).trans hcc] at h; exact h) (m_go ?_)
    show AW _ _ _ _ _ _ _ _ [.int (nI c), .int (nI k)] _ _ _ _
    refine a_icmp_geN (tgt := 144) dM_after_128 (by decide) (by omega) (by omega) (fun _ => ?_) (fun c => False.elim (by omega))
    refine a_iconstN (a := 0) dM_after_144 (by decide) ?_
    refine a_istore (lv' := [(6, .int (nI 0)), (8, .int (nI nh)), (4, .int (lwN s9.1 p nh).2), (5, .int (lwN s9.1 p nh).1), (0, .ref 95), (3, .int x), (7, .int (nI k))]) dM_after_145 (by decide) rfl ?_
    refine a_iincN (lv' := [(7, .int (nI (k + 1))), (6, .int (nI 0)), (8, .int (nI nh)), (4, .int (lwN s9.1 p nh).2), (5, .int (lwN s9.1 p nh).1), (0, .ref 95), (3, .int x)]) (j := 6) dM_after_147 rfl (by decide) rfl ?_
    refine a_goto (tgt := 45) dM_after_150 (by decide) ?_
    refine a_iload 1 dM_after_45 rfl ?_
    refine a_if_eq (tgt := 153) dM_after_47 (by decide) (fun _ => ?_) (fun c => False.elim (c rfl))
    refine a_locs (lv' := [(7, .int (nI (k + 1))), (4, .int (lwN s9.1 p nh).2), (5, .int (lwN s9.1 p nh).1), (6, .int (nI 0)), (0, .ref 95), (3, .int x)]) [0, 3, 4, 1, 5, 6] rfl ?_
    exact hx s9 (lwN s9.1 p nh) _ _ rfl
  | succ m ih =>
    intro k s9 p hk9 hL hx
    obtain ⟨u9, hu9, eu9⟩ := hww k (by omega)
    unfold afG at hx
    cases e : stR I ko nh nl kw k s9 with
    | none =>
      rw [e] at hx
      refine a_iload 3 dM_after_45 rfl ?_
      refine a_if_eq (tgt := 153) dM_after_47 (by decide) (fun c => False.elim (absurd c (by decide))) (fun _ => ?_)
      refine a_iconstN (a := 0) dM_after_50 (by decide) ?_
      refine a_istore (lv' := [(8, .int (nI 0)), (7, .int (nI k)), (4, .int p.2), (5, .int p.1), (6, .int (nI 1)), (0, .ref 95), (3, .int x)]) dM_after_51 (by decide) rfl ?_
      refine a_locs (lv' := [(8, .int (nI 0)), (4, .int p.2), (5, .int p.1), (0, .ref 95), (3, .int x), (6, .int (nI 1)), (7, .int (nI k))]) [0, 2, 3, 5, 6, 4, 1] rfl ?_
      refine l_awN (s0 := p) hn hR ho hk hh hnh hl hnl hW ?_ nh 0 (by omega) _ rfl
      rw [awN_lw]
      refine a_iload 6 dM_after_122 rfl ?_
      refine a_aload_n 3 dM_after_124 rfl rfl ?_
      refine a_callV (Q' := m_res (some (.int (nI c))) (crT I s9) J R) (as := []) (st := [.int (nI k)]) dM_after_125 ml12_292 rfl (Nat.le_of_ble_eq_true rfl) ly_95 rfl rfl (by decide) (by omega) (Nat.le_of_ble_eq_true rfl) rfl (Nat.le_refl _) (Nat.le_refl _) (by have h := c_M_deeds (S := S) (d := d + 7) (n := n) (J := J) (R := R) (I := crT I s9) (kw := kw) hn hR ((crR_f (by decide)).trans hkw) (by omega); rw [show (crT I s9) 102 (121 * kw) = nI c from (congrFun (crR_o (by decide) (by decide) (by decide) (by decide)) _).trans hcc] at h; exact h) (m_go ?_)
      show AW _ _ _ _ _ _ _ _ [.int (nI c), .int (nI k)] _ _ _ _
      refine a_icmp_geN (tgt := 144) dM_after_128 (by decide) (by omega) (by omega) (fun c => False.elim (by omega)) (fun _ => ?_)
      refine a_aload_n 3 dM_after_131 rfl rfl ?_
      refine a_iload 6 dM_after_132 rfl ?_
      refine a_callV (Q' := m_res (some (.int 0)) (crT I s9) J R) (as := [.int (nI k)]) (st := []) dM_after_134 ml12_334 rfl (Nat.le_of_ble_eq_true rfl) ly_95 rfl rfl (by decide) (by omega) (Nat.le_of_ble_eq_true rfl) rfl (Nat.le_refl _) (Nat.le_refl _) (by have h := c_M_doesDeed (S := S) (d := d) (s := s9) (J := J) hn hR ho hk hh hnh hl hnl hW hkw hw2 hH (k := k) (by omega) eu9 hu9 hL; rw [e] at h; exact h) (m_go ?_)
      show AW _ _ _ _ _ _ _ _ [.int 0] _ _ _ _
      refine a_if_eq (tgt := 144) dM_after_137 (by decide) (fun _ => ?_) (fun c => False.elim (c rfl))
      refine a_iconstN (a := 0) dM_after_144 (by decide) ?_
      refine a_istore (lv' := [(6, .int (nI 0)), (8, .int (nI nh)), (4, .int (lwN s9.1 p nh).2), (5, .int (lwN s9.1 p nh).1), (0, .ref 95), (3, .int x), (7, .int (nI k))]) dM_after_145 (by decide) rfl ?_
      refine a_iincN (lv' := [(7, .int (nI (k + 1))), (6, .int (nI 0)), (8, .int (nI nh)), (4, .int (lwN s9.1 p nh).2), (5, .int (lwN s9.1 p nh).1), (0, .ref 95), (3, .int x)]) (j := 6) dM_after_147 rfl (by decide) rfl ?_
      refine a_goto (tgt := 45) dM_after_150 (by decide) ?_
      refine a_iload 1 dM_after_45 rfl ?_
      refine a_if_eq (tgt := 153) dM_after_47 (by decide) (fun _ => ?_) (fun c => False.elim (c rfl))
      refine a_locs (lv' := [(7, .int (nI (k + 1))), (4, .int (lwN s9.1 p nh).2), (5, .int (lwN s9.1 p nh).1), (6, .int (nI 0)), (0, .ref 95), (3, .int x)]) [0, 3, 4, 1, 5, 6] rfl ?_
      exact hx s9 (lwN s9.1 p nh) _ _ rfl
    | some s8 =>
      rw [e] at hx
      refine a_iload 3 dM_after_45 rfl ?_
      refine a_if_eq (tgt := 153) dM_after_47 (by decide) (fun c => False.elim (absurd c (by decide))) (fun _ => ?_)
      refine a_iconstN (a := 0) dM_after_50 (by decide) ?_
      refine a_istore (lv' := [(8, .int (nI 0)), (7, .int (nI k)), (4, .int p.2), (5, .int p.1), (6, .int (nI 1)), (0, .ref 95), (3, .int x)]) dM_after_51 (by decide) rfl ?_
      refine a_locs (lv' := [(8, .int (nI 0)), (4, .int p.2), (5, .int p.1), (0, .ref 95), (3, .int x), (6, .int (nI 1)), (7, .int (nI k))]) [0, 2, 3, 5, 6, 4, 1] rfl ?_
      refine l_awN (s0 := p) hn hR ho hk hh hnh hl hnl hW ?_ nh 0 (by omega) _ rfl
      rw [awN_lw]
      refine a_iload 6 dM_after_122 rfl ?_
      refine a_aload_n 3 dM_after_124 rfl rfl ?_
      refine a_callV (Q' := m_res (some (.int (nI c))) (crT I s9) J R) (as := []) (st := [.int (nI k)]) dM_after_125 ml12_292 rfl (Nat.le_of_ble_eq_true rfl) ly_95 rfl rfl (by decide) (by omega) (Nat.le_of_ble_eq_true rfl) rfl (Nat.le_refl _) (Nat.le_refl _) (by have h := c_M_deeds (S := S) (d := d + 7) (n := n) (J := J) (R := R) (I := crT I s9) (kw := kw) hn hR ((crR_f (by decide)).trans hkw) (by omega); rw [show (crT I s9) 102 (121 * kw) = nI c from (congrFun (crR_o (by decide) (by decide) (by decide) (by decide)) _).trans hcc] at h; exact h) (m_go ?_)
      show AW _ _ _ _ _ _ _ _ [.int (nI c), .int (nI k)] _ _ _ _
      refine a_icmp_geN (tgt := 144) dM_after_128 (by decide) (by omega) (by omega) (fun c => False.elim (by omega)) (fun _ => ?_)
      refine a_aload_n 3 dM_after_131 rfl rfl ?_
      refine a_iload 6 dM_after_132 rfl ?_
      refine a_callV (Q' := m_res (some (.int 1)) (crT I s8) J R) (as := [.int (nI k)]) (st := []) dM_after_134 ml12_334 rfl (Nat.le_of_ble_eq_true rfl) ly_95 rfl rfl (by decide) (by omega) (Nat.le_of_ble_eq_true rfl) rfl (Nat.le_refl _) (Nat.le_refl _) (by have h := c_M_doesDeed (S := S) (d := d) (s := s9) (J := J) hn hR ho hk hh hnh hl hnl hW hkw hw2 hH (k := k) (by omega) eu9 hu9 hL; rw [e] at h; exact h) (m_go ?_)
      show AW _ _ _ _ _ _ _ _ [.int 1] _ _ _ _
      refine a_if_eq (tgt := 144) dM_after_137 (by decide) (fun c => False.elim (absurd c (by decide))) (fun _ => ?_)
      refine a_iconstN (a := 1) dM_after_140 (by decide) ?_
      refine a_goto (tgt := 145) dM_after_141 (by decide) ?_
      refine a_istore (lv' := [(6, .int (nI 1)), (8, .int (nI nh)), (4, .int (lwN s9.1 p nh).2), (5, .int (lwN s9.1 p nh).1), (0, .ref 95), (3, .int x), (7, .int (nI k))]) dM_after_145 (by decide) rfl ?_
      refine a_iincN (lv' := [(7, .int (nI (k + 1))), (6, .int (nI 1)), (8, .int (nI nh)), (4, .int (lwN s9.1 p nh).2), (5, .int (lwN s9.1 p nh).1), (0, .ref 95), (3, .int x)]) (j := 6) dM_after_147 rfl (by decide) rfl ?_
      refine a_goto (tgt := 45) dM_after_150 (by decide) ?_
      refine a_locs (lv' := [(7, .int (nI (k + 1))), (4, .int (lwN s9.1 p nh).2), (5, .int (lwN s9.1 p nh).1), (6, .int (nI 1)), (0, .ref 95), (3, .int x)]) [0, 3, 4, 1, 5, 6] rfl ?_
      exact ih (k + 1) s8 (lwN s9.1 p nh) (by omega) (doF_WFl hnl (fun l hl => hW.ok (by omega)) hL e) hx
abbrev afT (I : mI) (ko nh nl kw c : Nat) : cS × (Int32 × Int32) := afG (stR I ko nh nl kw) nh c 0 (opS I ko nl) (1000000, -1)
theorem b_M_after {S : Nat × (Nat → Int32)} {d n : Nat} {I : mI} {J : mJ} {R : mR} {ko nh nl : Nat} (hn : 122 ≤ n) (hR : m_fin R) (ho : I 95 23 = nI ko) (hk : ko < 7) (hh : I 95 24 = nI nh) (hnh : nh ≤ 6) (hl : I 95 25 = nI nl) (hnl : nl ≤ 10) (hW : WFk I ko) {kw c : Nat} (hkw : I 95 31 = nI kw) (hw2 : kw < 2) (hH : WFh (I 106) nl) (hcc : I 102 (121 * kw) = nI c) (hc : c ≤ 40) (hww : WFw I kw c) {x : Int32} (hx3 : ¬ x = 0 → ¬ x = nI 1 → ¬ x = nI 2 → x = 3)  {Q : Option Value → mI → mJ → mR → Prop} (hQ : Q (some (.int (afF (afT I ko nh nl kw c).1 (afT I ko nh nl kw c).2 x))) (crT I (afT I ko nh nl kw c).1) J R) : AW S (d + 8) YM_after n n Q 27 [(0, .ref 95), (3, .int x)] [] I J R n := by
  refine a_aload_n 0 dM_after_27 rfl rfl ?_
  refine a_callV (Q' := m_res none (crT I (opS I ko nl)) J R) (as := []) (st := []) dM_after_28 ml12_331 rfl (Nat.le_of_ble_eq_true rfl) ly_95 rfl rfl (by decide) (by omega) (Nat.le_of_ble_eq_true rfl) rfl (Nat.le_refl _) (Nat.le_refl _) (c_M_opens hn hR ho hk hh hnh hl hnl hW) (m_go ?_)
  show AW _ _ _ _ _ _ _ _ [] _ _ _ _
  refine a_iconst (v := -1) dM_after_31 (by decide) ?_
  refine a_istore (lv' := [(4, .int (-1)), (0, .ref 95), (3, .int x)]) dM_after_32 (by decide) rfl ?_
  refine a_ldcw (v := 1000000) dM_after_34 cn12_349 ?_
  refine a_istore (lv' := [(5, .int 1000000), (4, .int (-1)), (0, .ref 95), (3, .int x)]) dM_after_37 (by decide) rfl ?_
  refine a_iconstN (a := 1) dM_after_39 (by decide) ?_
  refine a_istore (lv' := [(6, .int (nI 1)), (5, .int 1000000), (4, .int (-1)), (0, .ref 95), (3, .int x)]) dM_after_40 (by decide) rfl ?_
  refine a_iconstN (a := 0) dM_after_42 (by decide) ?_
  refine a_istore (lv' := [(7, .int (nI 0)), (6, .int (nI 1)), (5, .int 1000000), (4, .int (-1)), (0, .ref 95), (3, .int x)]) dM_after_43 (by decide) rfl ?_
  refine a_locs (lv' := [(7, .int (nI 0)), (4, .int (-1)), (5, .int 1000000), (6, .int (nI 1)), (0, .ref 95), (3, .int x)]) [0, 3, 2, 1, 4, 5] rfl ?_
  refine l_after (S := S) (d := d) (J := J) hn hR ho hk hh hnh hl hnl hW hkw hw2 hH hcc hc hww (x := x) c 0 (opS I ko nl) (1000000, -1) (by omega) opS_WFl (fun s9 p9 kk c9 e9 => ?_)
  have hQ9 := hQ
  unfold afT at hQ9
  rw [e9] at hQ9
  refine a_iload_n 5 dM_after_153 rfl rfl ?_
  refine a_if_ne (tgt := 162) dM_after_154 (by decide) (fun c154 => ?_) (fun c154 => ?_)
  · refine a_iload_n 5 dM_after_162 rfl rfl ?_
    refine a_iconstN (a := 1) dM_after_163 (by decide) ?_
    refine a_icmp_ne (tgt := 172) dM_after_164 (by decide) (fun c164 => ?_) (fun c164 => ?_)
    · refine a_iload_n 5 dM_after_172 rfl rfl ?_
      refine a_iconstN (a := 2) dM_after_173 (by decide) ?_
      refine a_icmp_ne (tgt := 184) dM_after_174 (by decide) (fun c174 => ?_) (fun c174 => ?_)
      · refine a_aload_n 4 dM_after_184 rfl rfl ?_
        refine a_geti dM_after_185 fl12_313 rfl ly_95 (by omega) ?_
        rw [show (crT I s9) 95 37 = s9.2.2.2.2.2.2.2.2 from rfl]
        exact a_iret dM_after_188 rfl (by unfold afF at hQ9; rw [if_neg (show ¬ x = 0 from c154), if_neg (show ¬ x = 1 from c164), if_neg (show ¬ x = 2 from c174), if_pos (show x = 3 from hx3 c154 c164 c174)] at hQ9; exact hQ9)
      · refine a_aload_n 4 dM_after_177 rfl rfl ?_
        refine a_geti dM_after_178 fl12_310 rfl ly_95 (by omega) ?_
        rw [show (crT I s9) 95 36 = s9.2.2.2.2.2.2.2.1 from rfl]
        refine a_goto (tgt := 188) dM_after_181 (by decide) ?_
        exact a_iret dM_after_188 rfl (by unfold afF at hQ9; rw [if_neg (show ¬ x = 0 from c154), if_neg (show ¬ x = 1 from c164), if_pos (show x = 2 from c174)] at hQ9; exact hQ9)
    · refine a_iload 2 dM_after_167 rfl ?_
      refine a_goto (tgt := 188) dM_after_169 (by decide) ?_
      exact a_iret dM_after_188 rfl (by unfold afF at hQ9; rw [if_neg (show ¬ x = 0 from c154), if_pos (show x = 1 from c164)] at hQ9; exact hQ9)
  · refine a_iload 1 dM_after_157 rfl ?_
    refine a_goto (tgt := 188) dM_after_159 (by decide) ?_
    exact a_iret dM_after_188 rfl (by unfold afF at hQ9; rw [if_pos (show x = 0 from c154)] at hQ9; exact hQ9)
