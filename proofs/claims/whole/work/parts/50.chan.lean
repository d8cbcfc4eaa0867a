def pwNS (x : Int64) (k : Nat) (s : Int64) : Int64 := (s * x)
def pwN (x : Int64) (s0 : Int64) : Nat → Int64
  | 0 => s0
  | k + 1 => pwNS x k (pwN x s0 k)
theorem l_pwN {S : Nat × (Nat → Int32)} {d n : Nat} {I : mI} {J : mJ} {R : mR} {x : Int64} {N : Nat} (hN : N < 2 ^ 31)  {s0 : Int64} {Q : Option Value → mI → mJ → mR → Prop}  (hx : AW S d YM_power n n Q 21 [(5, .int (nI N)), (3, .long (pwN x s0 N)), (0, .long x), (2, .int (nI N))] [] I J R n) : ∀ m k, k + m = N → ∀ s : Int64, pwN x s0 k = s → AW S d YM_power n n Q 5 [(5, .int (nI k)), (3, .long s), (0, .long x), (2, .int (nI N))] [] I J R n := by
  intro m
  induction m with
  | zero =>
    intro k hk9 s es
    rw [show k = N by omega] at es ⊢
    subst es
    refine a_iload 0 dM_power_5 rfl ?_
    refine a_iload_n 3 dM_power_7 rfl rfl ?_
    refine a_icmp_geN (tgt := 21) dM_power_8 (by decide) (by omega) (by omega) (fun _ => ?_) (fun c => False.elim (by omega))
    exact hx
  | succ m ih =>
    intro k hk9 s es
    refine a_iload 0 dM_power_5 rfl ?_
    refine a_iload_n 3 dM_power_7 rfl rfl ?_
    refine a_icmp_geN (tgt := 21) dM_power_8 (by decide) (by omega) (by omega) (fun c => False.elim (by omega)) (fun _ => ?_)
    refine a_lload_n 1 dM_power_11 rfl rfl ?_
    refine a_lload_n 2 dM_power_12 rfl rfl ?_
    refine a_lmul dM_power_13 ?_
    refine a_lstore_n (lv' := [(3, .long (s * x)), (5, .int (nI k)), (0, .long x), (2, .int (nI N))]) dM_power_14 rfl (by decide) rfl ?_
    refine a_iincN (lv' := [(5, .int (nI (k + 1))), (3, .long (s * x)), (0, .long x), (2, .int (nI N))]) (j := 1) dM_power_15 rfl (by decide) rfl ?_
    refine a_goto (tgt := 5) dM_power_18 (by decide) ?_
    have e' : pwN x s0 (k + 1) = (s * x) := by
      show pwNS x k (pwN x s0 k) = _
      rw [es]
      unfold pwNS
      rfl
    exact ih (k + 1) (by omega) (s * x) e'
theorem c_M_power {S : Nat × (Nat → Int32)} {d n : Nat} {I : mI} {J : mJ} {R : mR} {x : Int64} {N : Nat} (hN : N < 2 ^ 31)  : RUN S d YM_power [.long x, .int (nI N)] I J R n (some (.long (pwN x 1 N))) I J R n := by
  show AW S _ YM_power n n _ 0 [(0, .long x), (2, .int (nI N))] [] I J R n
  refine a_lconst (v := 1) dM_power_0 (by decide) ?_
  refine a_lstore_n (lv' := [(3, .long 1), (0, .long x), (2, .int (nI N))]) dM_power_1 rfl (by decide) rfl ?_
  refine a_iconstN (a := 0) dM_power_2 (by decide) ?_
  refine a_istore (lv' := [(5, .int (nI 0)), (3, .long 1), (0, .long x), (2, .int (nI N))]) dM_power_3 (by decide) rfl ?_
  refine l_pwN (s0 := 1) hN ?_ N 0 (by omega) _ rfl
  refine a_lload_n 1 dM_power_21 rfl rfl ?_
  exact a_lret dM_power_22 rfl ⟨rfl, rfl, rfl, rfl⟩
theorem dsR_row {I : mI} {f : Nat → Int32} {ko : Nat} (h : f 30 = I 95 30) : dsR (m_row I 95 f) ko = dsR I ko := by
  funext l x
  unfold dsR
  rw [m_row_eq, h]
  rfl
theorem oR_row {I : mI} {f : Nat → Int32} {ko : Nat} : oR (m_row I 95 f) ko = oR I ko := rfl
theorem WFk_row {I : mI} {f : Nat → Int32} {ko : Nat} (h : WFk I ko) : WFk (m_row I 95 f) ko := h
abbrev bhR (I : mI) (ko : Nat) (m0 b0 : Int32) (k : Nat) : Int32 × Int32 × Int32 := bhN (dsR I ko) (fun l => oR I ko (19 + l)) m0 b0 k
theorem l_bhR {S : Nat × (Nat → Int32)} {d n : Nat} {I : mI} {J : mJ} {R : mR} {ko nl : Nat} (hn : 122 ≤ n) (hR : m_fin R) (ho : I 95 23 = nI ko) (hk : ko < 7) (hl : I 95 25 = nI nl) (hnl : nl ≤ 10) (hW : WFk I ko) {b0 : Int32} {m0 : Int32}   {Q : Option Value → mI → mJ → mR → Prop}  (hx : AW S (d + 4) YM_behind n n Q 74 [(5, .int (nI nl)), (3, .int (bhN (dsR I ko) (fun l => oR I ko (19 + l)) m0 b0 nl).1), (4, .int (bhN (dsR I ko) (fun l => oR I ko (19 + l)) m0 b0 nl).2.1), (0, .ref 95), (2, .int b0)] [] (m_row I 95 (va_up (I 95) 39 ((bhN (dsR I ko) (fun l => oR I ko (19 + l)) m0 b0 nl).2.2))) J R n) : ∀ m k, k + m = nl → ∀ s : Int32 × Int32 × Int32, bhN (dsR I ko) (fun l => oR I ko (19 + l)) m0 b0 k = s → AW S (d + 4) YM_behind n n Q 19 [(5, .int (nI k)), (3, .int s.1), (4, .int s.2.1), (0, .ref 95), (2, .int b0)] [] (m_row I 95 (va_up (I 95) 39 s.2.2)) J R n := by
  intro m
  induction m with
  | zero =>
    intro k hk9 s es
    rw [show k = nl by omega] at es ⊢
    subst es
    refine a_iload 0 dM_behind_19 rfl ?_
    refine a_aload_n 3 dM_behind_21 rfl rfl ?_
    refine a_geti dM_behind_22 fl12_262 rfl ly_95 (by omega) ?_
    rw [show (m_row I 95 (va_up (I 95) 39 ((bhN (dsR I ko) (fun l => oR I ko (19 + l)) m0 b0 nl).2.2))) 95 25 = (nI nl) from hl]
    refine a_icmp_geN (tgt := 74) dM_behind_25 (by decide) (by omega) (by omega) (fun _ => ?_) (fun c => False.elim (by omega))
    exact hx
  | succ m ih =>
    intro k hk9 s es
    have hq := bhN_ok (ds := dsR I ko) (kd := fun l => oR I ko (19 + l)) (m0 := m0) (s := b0) k (fun l hl => hW.ok (by omega))
    rw [show bhN (dsR I ko) (fun l => oR I ko (19 + l)) m0 b0 k = s from es] at hq
    refine a_iload 0 dM_behind_19 rfl ?_
    refine a_aload_n 3 dM_behind_21 rfl rfl ?_
    refine a_geti dM_behind_22 fl12_262 rfl ly_95 (by omega) ?_
    rw [show (m_row I 95 (va_up (I 95) 39 s.2.2)) 95 25 = (nI nl) from hl]
    refine a_icmp_geN (tgt := 74) dM_behind_25 (by decide) (by omega) (by omega) (fun c => False.elim (by omega)) (fun _ => ?_)
    refine a_iload_n 4 dM_behind_28 rfl rfl ?_
    refine a_iload 0 dM_behind_29 rfl ?_
    refine a_callS (Q' := m_res (some (.int (f_has b0 (nI k)))) (m_row I 95 (va_up (I 95) 39 s.2.2)) J R) (as := [.int b0, .int (nI k)]) (st := []) dM_behind_31 ml12_94 rfl (Nat.le_of_ble_eq_true rfl) (Nat.le_of_ble_eq_true rfl) rfl (Nat.le_refl _) (Nat.le_refl _) c_M_has (m_go ?_)
    show AW _ _ _ _ _ _ _ _ [.int (f_has b0 (nI k))] _ _ _ _
    refine a_if_eq (tgt := 68) dM_behind_34 (by decide) (fun c34 => ?_) (fun c34 => ?_)
    · refine a_iincN (lv' := [(5, .int (nI (k + 1))), (3, .int s.1), (4, .int s.2.1), (0, .ref 95), (2, .int b0)]) (j := 0) dM_behind_68 rfl (by decide) rfl ?_
      refine a_goto (tgt := 19) dM_behind_71 (by decide) ?_
      have e' : bhN (dsR I ko) (fun l => oR I ko (19 + l)) m0 b0 (k + 1) = (s.1, s.2.1, s.2.2) := by
        unfold bhN
        rw [es]
        rw [if_pos c34]
      exact ih (k + 1) (by omega) (s.1, s.2.1, s.2.2) e'
    · refine a_iload_n 1 dM_behind_37 rfl rfl ?_
      refine a_aload_n 3 dM_behind_38 rfl rfl ?_
      refine a_iload 0 dM_behind_39 rfl ?_
      refine a_iload 2 dM_behind_41 rfl ?_
      refine a_callV (Q' := m_res (some (.int (dsR I ko k s.2.1))) (m_row I 95 (va_up (I 95) 39 s.2.2)) J R) (as := [.int (nI k), .int s.2.1]) (st := [.int s.1]) dM_behind_43 ml12_283 rfl (Nat.le_of_ble_eq_true rfl) ly_95 rfl rfl (by decide) (by omega) (Nat.le_of_ble_eq_true rfl) rfl (Nat.le_refl _) (Nat.le_refl _) (by have h := c_M_doesBy (S := S) (d := d) (n := n) (J := J) (R := R) (I := (m_row I 95 (va_up (I 95) 39 s.2.2))) (ko := ko) (l := k) (x := s.2.1) hn hR (show (m_row I 95 (va_up (I 95) 39 s.2.2)) 95 23 = nI ko from ho) hk (by omega) (WFk_row hW) hq; rw [dsR_row (I := I) (f := (va_up (I 95) 39 s.2.2)) rfl] at h; exact h) (m_go ?_)
      show AW _ _ _ _ _ _ _ _ [.int (dsR I ko k s.2.1), .int s.1] _ _ _ _
      refine a_iadd dM_behind_46 ?_
      refine a_istore_n (lv' := [(3, .int (s.1 + (dsR I ko k s.2.1))), (5, .int (nI k)), (4, .int s.2.1), (0, .ref 95), (2, .int b0)]) dM_behind_47 rfl (by decide) rfl ?_
      refine a_aload_n 3 dM_behind_48 rfl rfl ?_
      refine a_iload 1 dM_behind_49 rfl ?_
      refine a_callV (Q' := m_res (some (.int (oR I ko (19 + k)))) (m_row I 95 (va_up (I 95) 39 s.2.2)) J R) (as := [.int (nI k)]) (st := []) dM_behind_51 ml12_271 rfl (Nat.le_of_ble_eq_true rfl) ly_95 rfl rfl (by decide) (by omega) (Nat.le_of_ble_eq_true rfl) rfl (Nat.le_refl _) (Nat.le_refl _) (c_M_kind hn hR (show (m_row I 95 (va_up (I 95) 39 s.2.2)) 95 23 = nI ko from ho) hk (by omega)) (m_go ?_)
      show AW _ _ _ _ _ _ _ _ [.int (oR I ko (19 + k))] _ _ _ _
      refine a_istore (lv' := [(4, .int (oR I ko (19 + k))), (3, .int (s.1 + (dsR I ko k s.2.1))), (5, .int (nI k)), (0, .ref 95), (2, .int b0)]) dM_behind_54 (by decide) rfl ?_
      refine a_aload_n 3 dM_behind_56 rfl rfl ?_
      refine a_aload_n 3 dM_behind_57 rfl rfl ?_
      refine a_geti dM_behind_58 fl12_385 rfl ly_95 (by omega) ?_
      rw [show (m_row I 95 (va_up (I 95) 39 s.2.2)) 95 39 = s.2.2 from rfl]
      refine a_iload_n 1 dM_behind_61 rfl rfl ?_
      refine a_callS (Q' := m_res (some (.int (f_le s.2.2 (s.1 + (dsR I ko k s.2.1))))) (m_row I 95 (va_up (I 95) 39 s.2.2)) J R) (as := [.int s.2.2, .int (s.1 + (dsR I ko k s.2.1))]) (st := [.ref 95]) dM_behind_62 ml12_355 rfl (Nat.le_of_ble_eq_true rfl) (Nat.le_of_ble_eq_true rfl) rfl (Nat.le_refl _) (Nat.le_refl _) c_M_lesser (m_go ?_)
      show AW _ _ _ _ _ _ _ _ [.int (f_le s.2.2 (s.1 + (dsR I ko k s.2.1))), .ref 95] _ _ _ _
      refine a_puti dM_behind_65 fl12_385 rfl ly_95 (by omega) ?_
      rw [show m_up (m_row I 95 (va_up (I 95) 39 s.2.2)) 95 39 (f_le s.2.2 (s.1 + (dsR I ko k s.2.1))) = (m_row I 95 (va_up (I 95) 39 (f_le s.2.2 (s.1 + (dsR I ko k s.2.1))))) from (by rw [m_up_r, show va_up (va_up (I 95) 39 s.2.2) 39 (f_le s.2.2 (s.1 + (dsR I ko k s.2.1))) = (va_up (I 95) 39 (f_le s.2.2 (s.1 + (dsR I ko k s.2.1)))) from va_uu])]
      refine a_iincN (lv' := [(5, .int (nI (k + 1))), (4, .int (oR I ko (19 + k))), (3, .int (s.1 + (dsR I ko k s.2.1))), (0, .ref 95), (2, .int b0)]) (j := 2) dM_behind_68 rfl (by decide) rfl ?_
      refine a_goto (tgt := 19) dM_behind_71 (by decide) ?_
      have e' : bhN (dsR I ko) (fun l => oR I ko (19 + l)) m0 b0 (k + 1) = ((s.1 + (dsR I ko k s.2.1)), (oR I ko (19 + k)), (f_le s.2.2 (s.1 + (dsR I ko k s.2.1)))) := by
        unfold bhN
        rw [es]
        rw [if_neg c34]
      refine a_locs (lv' := [(5, .int (nI (k + 1))), (3, .int (s.1 + (dsR I ko k s.2.1))), (4, .int (oR I ko (19 + k))), (0, .ref 95), (2, .int b0)]) [0, 2, 1, 3, 4] rfl ?_
      exact ih (k + 1) (by omega) ((s.1 + (dsR I ko k s.2.1)), (oR I ko (19 + k)), (f_le s.2.2 (s.1 + (dsR I ko k s.2.1)))) e'
theorem c_M_behind {S : Nat × (Nat → Int32)} {d n : Nat} {I : mI} {J : mJ} {R : mR} {ko nl : Nat} (hn : 122 ≤ n) (hR : m_fin R) (ho : I 95 23 = nI ko) (hk : ko < 7) (hl : I 95 25 = nI nl) (hnl : nl ≤ 10) (hW : WFk I ko) {b0 : Int32} {h : Nat} (hh6 : h < 6)  : RUN S (d + 4) YM_behind [.ref 95, .int (nI h), .int b0] I J R n (some (.int (bhR I ko (oR I ko (3 + h)) b0 nl).1)) (m_row I 95 (va_up (I 95) 39 ((bhR I ko (oR I ko (3 + h)) b0 nl).2.2))) J R n := by
  show AW S _ YM_behind n n _ 0 [(0, .ref 95), (1, .int (nI h)), (2, .int b0)] [] I J R n
  refine a_aload_n 0 dM_behind_0 rfl rfl ?_
  refine a_iconstN (a := 3) dM_behind_1 (by decide) ?_
  refine a_iload_n 1 dM_behind_2 rfl rfl ?_
  refine a_iaddN (a := 3) (b := h) dM_behind_3 ?_
  refine a_callV (Q' := m_res (some (.int (oR I ko (3 + h)))) I J R) (as := [.int (nI (3 + h))]) (st := []) dM_behind_4 ml12_255 rfl (Nat.le_of_ble_eq_true rfl) ly_95 rfl rfl (by decide) (by omega) (Nat.le_of_ble_eq_true rfl) rfl (Nat.le_refl _) (Nat.le_refl _) (c_M_of hn hR (show I 95 23 = nI ko from ho) (by omega)) (m_go ?_)
  show AW _ _ _ _ _ _ _ _ [.int (oR I ko (3 + h))] _ _ _ _
  refine a_istore_n (lv' := [(3, .int (oR I ko (3 + h))), (0, .ref 95), (1, .int (nI h)), (2, .int b0)]) dM_behind_7 rfl (by decide) rfl ?_
  refine a_iconst (v := -1) dM_behind_8 (by decide) ?_
  refine a_istore (lv' := [(4, .int (-1)), (3, .int (oR I ko (3 + h))), (0, .ref 95), (1, .int (nI h)), (2, .int b0)]) dM_behind_9 (by decide) rfl ?_
  refine a_aload_n 2 dM_behind_11 rfl rfl ?_
  refine a_iload_n 1 dM_behind_12 rfl rfl ?_
  refine a_puti dM_behind_13 fl12_385 rfl ly_95 (by omega) ?_
  rw [m_up_row]
  refine a_iconstN (a := 0) dM_behind_16 (by decide) ?_
  refine a_istore (lv' := [(5, .int (nI 0)), (4, .int (-1)), (3, .int (oR I ko (3 + h))), (0, .ref 95), (1, .int (nI h)), (2, .int b0)]) dM_behind_17 (by decide) rfl ?_
  refine a_locs (lv' := [(5, .int (nI 0)), (3, .int (oR I ko (3 + h))), (4, .int (-1)), (0, .ref 95), (2, .int b0)]) [0, 2, 1, 3, 5] rfl ?_
  refine l_bhR  hn hR ho hk hl hnl hW (m0 := oR I ko (3 + h)) (b0 := b0) ?_ nl 0 (by omega) _ rfl
  refine a_iload_n 1 dM_behind_74 rfl rfl ?_
  exact a_iret dM_behind_75 rfl ⟨rfl, rfl, rfl, rfl⟩
/-- how far a long is from 0 -/
def nA (x : Int64) : Nat := x.toInt.natAbs
theorem nA_pos {x : Int64} (h : 0 ≤ x) : x = lN (nA x) := by
  obtain ⟨k, hk, rfl⟩ := pk_lOf (Int64.not_lt.mpr h)
  unfold nA
  rw [pk_lT hk]
  rfl
theorem nA_neg {x : Int64} (h : ¬ 0 ≤ x) (hx : nA x < 2 ^ 63) : -x = lN (nA x) := by
  have h0 : x < 0 := Int64.not_le.mp h
  have h1 : x.toInt < 0 := by
    have := Int64.lt_iff_toInt_lt.mp h0
    exact this
  apply Int64.toInt_inj.mp
  rw [pk_lT hx, Int64.toInt_neg]
  unfold nA at hx ⊢
  rw [Int.bmod_eq_of_le (by omega) (by omega)]
  omega
theorem lN_ne0 {y : Nat} (h : 0 < y) (hy : y < 2 ^ 63) : ¬ lN y = 0 := fun c => by
  have := (pk_lEQ (a := y) (b := 0) hy (by decide)).mp c
  omega
theorem cmp_z {y : Nat} (hy : y < 2 ^ 63) : lg_cmp (lN y) 0 = 0 ↔ y = 0 := by
  rw [lg_cmp_eq]
  exact pk_lEQ (a := y) (b := 0) hy (by decide)
theorem gcd_s {x y : Nat} (h : 0 < y) : Nat.gcd y x = Nat.gcd (x % y) y := by
  rw [Nat.gcd_rec]
theorem l_M_common {S : Nat × (Nat → Int32)} {d n : Nat} {I : mI} {J : mJ} {R : mR} {Q : Option Value → mI → mJ → mR → Prop} : ∀ y x : Nat, x < 2 ^ 63 → y < 2 ^ 63 → Q (some (.long (lN (Nat.gcd y x)))) I J R → AW S d YM_common n n Q 28 [(6, .long (lN y)), (4, .long (lN x))] [] I J R n := by
  intro y
  induction y using Nat.strongRecOn with
  | _ y ih =>
  intro x hx hy hQ
  by_cases h0 : y = 0
  · subst h0
    rw [Nat.gcd_zero_left] at hQ
    refine a_lload 0 dM_common_28 rfl ?_
    refine a_lconst (v := 0) dM_common_30 (by decide) ?_
    refine a_lcmp dM_common_31 ?_
    refine a_if_eq (tgt := 53) dM_common_32 (by decide) (fun _ => ?_) (fun c => False.elim (c ((cmp_z (by decide)).mpr rfl)))
    refine a_lload 1 dM_common_53 rfl ?_
    exact a_lret dM_common_55 rfl hQ
  · have hp : 0 < y := Nat.pos_of_ne_zero h0
    refine a_lload 0 dM_common_28 rfl ?_
    refine a_lconst (v := 0) dM_common_30 (by decide) ?_
    refine a_lcmp dM_common_31 ?_
    refine a_if_eq (tgt := 53) dM_common_32 (by decide) (fun c => False.elim (h0 ((cmp_z hy).mp c))) (fun _ => ?_)
    refine a_lload 1 dM_common_35 rfl ?_
    refine a_lload 0 dM_common_37 rfl ?_
    refine a_lrem dM_common_39 (lN_ne0 hp hy) ?_
    refine a_lstore (lv' := [(8, .long ((lN x) - (lN x) / (lN y) * (lN y))), (6, .long (lN y)), (4, .long (lN x))]) dM_common_40 (by decide) rfl ?_
    refine a_lload 1 dM_common_42 rfl ?_
    refine a_lstore (lv' := [(4, .long (lN y)), (8, .long ((lN x) - (lN x) / (lN y) * (lN y))), (6, .long (lN y))]) dM_common_44 (by decide) rfl ?_
    refine a_lload 1 dM_common_46 rfl ?_
    refine a_lstore (lv' := [(6, .long ((lN x) - (lN x) / (lN y) * (lN y))), (4, .long (lN y)), (8, .long ((lN x) - (lN x) / (lN y) * (lN y)))]) dM_common_48 (by decide) rfl ?_
    refine a_goto (tgt := 28) dM_common_50 (by decide) ?_
    refine a_locs (lv' := [(6, .long (lN x - lN x / lN y * lN y)), (4, .long (lN y))]) [0, 1] rfl ?_
    rw [pk_lRem hx hp hy]
    exact ih (x % y) (Nat.mod_lt _ hp) y hy (by have := Nat.mod_lt x hp; omega) (by rw [← gcd_s hp]; exact hQ)
theorem l_M_commonE {S : Nat × (Nat → Int32)} {d n : Nat} {I : mI} {J : mJ} {R : mR} {Q : Option Value → mI → mJ → mR → Prop} {X Y : Int64} {x y : Nat} (ex : X = lN x) (ey : Y = lN y) (hx : x < 2 ^ 63) (hy : y < 2 ^ 63) (hQ : Q (some (.long (lN (Nat.gcd y x)))) I J R) : AW S d YM_common n n Q 28 [(6, .long Y), (4, .long X)] [] I J R n := by
  subst ex ey
  exact l_M_common y x hx hy hQ
theorem c_M_common {S : Nat × (Nat → Int32)} {d n : Nat} {I : mI} {J : mJ} {R : mR} {a b : Int64} (ha : nA a < 2 ^ 63) (hb : nA b < 2 ^ 63)  : RUN S d YM_common [.long a, .long b] I J R n (some (.long (lN (Nat.gcd (nA b) (nA a))))) I J R n := by
  show AW S _ YM_common n n _ 0 [(0, .long a), (2, .long b)] [] I J R n
  refine a_lload_n 0 dM_common_0 rfl rfl ?_
  refine a_lconst (v := 0) dM_common_1 (by decide) ?_
  refine a_lcmp dM_common_2 ?_
  refine a_if_ge (tgt := 11) dM_common_3 (by decide) (fun c3 => ?_) (fun c3 => ?_)
  · refine a_lload_n 0 dM_common_11 rfl rfl ?_
    refine a_lstore (lv' := [(4, .long a), (0, .long a), (2, .long b)]) dM_common_12 (by decide) rfl ?_
    refine a_lload_n 2 dM_common_14 rfl rfl ?_
    refine a_lconst (v := 0) dM_common_15 (by decide) ?_
    refine a_lcmp dM_common_16 ?_
    refine a_if_ge (tgt := 25) dM_common_17 (by decide) (fun c17 => ?_) (fun c17 => ?_)
    · refine a_lload_n 2 dM_common_25 rfl rfl ?_
      refine a_lstore (lv' := [(6, .long b), (4, .long a), (0, .long a), (2, .long b)]) dM_common_26 (by decide) rfl ?_
      refine a_locs (lv' := [(6, .long b), (4, .long a)]) [0, 1] rfl ?_
      exact l_M_commonE (nA_pos ((lg_cmp_ge a 0).mp c3)) (nA_pos ((lg_cmp_ge b 0).mp c17)) ha hb ⟨rfl, rfl, rfl, rfl⟩
    · refine a_lload_n 2 dM_common_20 rfl rfl ?_
      refine a_lneg dM_common_21 ?_
      refine a_goto (tgt := 26) dM_common_22 (by decide) ?_
      refine a_lstore (lv' := [(6, .long (-b)), (4, .long a), (0, .long a), (2, .long b)]) dM_common_26 (by decide) rfl ?_
      refine a_locs (lv' := [(6, .long (-b)), (4, .long a)]) [0, 1] rfl ?_
      exact l_M_commonE (nA_pos ((lg_cmp_ge a 0).mp c3)) (nA_neg (fun q => c17 ((lg_cmp_ge b 0).mpr q)) hb) ha hb ⟨rfl, rfl, rfl, rfl⟩
  · refine a_lload_n 0 dM_common_6 rfl rfl ?_
    refine a_lneg dM_common_7 ?_
    refine a_goto (tgt := 12) dM_common_8 (by decide) ?_
    refine a_lstore (lv' := [(4, .long (-a)), (0, .long a), (2, .long b)]) dM_common_12 (by decide) rfl ?_
    refine a_lload_n 2 dM_common_14 rfl rfl ?_
    refine a_lconst (v := 0) dM_common_15 (by decide) ?_
    refine a_lcmp dM_common_16 ?_
    refine a_if_ge (tgt := 25) dM_common_17 (by decide) (fun c17 => ?_) (fun c17 => ?_)
    · refine a_lload_n 2 dM_common_25 rfl rfl ?_
      refine a_lstore (lv' := [(6, .long b), (4, .long (-a)), (0, .long a), (2, .long b)]) dM_common_26 (by decide) rfl ?_
      refine a_locs (lv' := [(6, .long b), (4, .long (-a))]) [0, 1] rfl ?_
      exact l_M_commonE (nA_neg (fun q => c3 ((lg_cmp_ge a 0).mpr q)) ha) (nA_pos ((lg_cmp_ge b 0).mp c17)) ha hb ⟨rfl, rfl, rfl, rfl⟩
    · refine a_lload_n 2 dM_common_20 rfl rfl ?_
      refine a_lneg dM_common_21 ?_
      refine a_goto (tgt := 26) dM_common_22 (by decide) ?_
      refine a_lstore (lv' := [(6, .long (-b)), (4, .long (-a)), (0, .long a), (2, .long b)]) dM_common_26 (by decide) rfl ?_
      refine a_locs (lv' := [(6, .long (-b)), (4, .long (-a))]) [0, 1] rfl ?_
      exact l_M_commonE (nA_neg (fun q => c3 ((lg_cmp_ge a 0).mpr q)) ha) (nA_neg (fun q => c17 ((lg_cmp_ge b 0).mpr q)) hb) ha hb ⟨rfl, rfl, rfl, rfl⟩
/-- a fraction's part -/
def ptF (up down : Int64) (under : Int32) : Int64 := (if under = 0 then up else down) / lN (Nat.gcd (nA up) (nA down))
theorem gcd_lt {a b : Nat} (hb : 0 < b) (h : b < 2 ^ 63) : 0 < Nat.gcd a b ∧ Nat.gcd a b < 2 ^ 63 := ⟨Nat.gcd_pos_of_pos_right _ hb, Nat.lt_of_le_of_lt (Nat.gcd_le_right _ hb) h⟩
theorem c_M_part {S : Nat × (Nat → Int32)} {d n : Nat} {I : mI} {J : mJ} {R : mR} {up down : Int64} {u : Int32} (hd : nA down < 2 ^ 63) (hu : nA up < 2 ^ 63) (h0 : 0 < nA down)  : RUN S (d + 1) YM_part [.long up, .long down, .int u] I J R n (some (.long (ptF up down u))) I J R n := by
  show AW S _ YM_part n n _ 0 [(0, .long up), (2, .long down), (4, .int u)] [] I J R n
  refine a_iload 2 dM_part_0 rfl ?_
  refine a_if_eq (tgt := 9) dM_part_2 (by decide) (fun c2 => ?_) (fun c2 => ?_)
  · refine a_lload_n 0 dM_part_9 rfl rfl ?_
    refine a_lload_n 1 dM_part_10 rfl rfl ?_
    refine a_lload_n 0 dM_part_11 rfl rfl ?_
    refine a_callS (Q' := m_res (some (.long (lN (Nat.gcd (nA up) (nA down))))) I J R) (as := [.long down, .long up]) (st := [.long up]) dM_part_12 ml12_375 rfl (Nat.le_of_ble_eq_true rfl) (Nat.le_of_ble_eq_true rfl) rfl (Nat.le_refl _) (Nat.le_refl _) (c_M_common hd hu) (m_go ?_)
    show AW _ _ _ _ _ _ _ _ [.long (lN (Nat.gcd (nA up) (nA down))), .long up] _ _ _ _
    refine a_ldiv dM_part_15 (lN_ne0 (gcd_lt h0 hd).1 (gcd_lt h0 hd).2) ?_
    exact a_lret dM_part_16 rfl ⟨by unfold ptF; rw [if_pos c2], rfl, rfl, rfl⟩
  · refine a_lload_n 1 dM_part_5 rfl rfl ?_
    refine a_goto (tgt := 10) dM_part_6 (by decide) ?_
    refine a_lload_n 1 dM_part_10 rfl rfl ?_
    refine a_lload_n 0 dM_part_11 rfl rfl ?_
    refine a_callS (Q' := m_res (some (.long (lN (Nat.gcd (nA up) (nA down))))) I J R) (as := [.long down, .long up]) (st := [.long down]) dM_part_12 ml12_375 rfl (Nat.le_of_ble_eq_true rfl) (Nat.le_of_ble_eq_true rfl) rfl (Nat.le_refl _) (Nat.le_refl _) (c_M_common hd hu) (m_go ?_)
    show AW _ _ _ _ _ _ _ _ [.long (lN (Nat.gcd (nA up) (nA down))), .long down] _ _ _ _
    refine a_ldiv dM_part_15 (lN_ne0 (gcd_lt h0 hd).1 (gcd_lt h0 hd).2) ?_
    exact a_lret dM_part_16 rfl ⟨by unfold ptF; rw [if_neg c2], rfl, rfl, rfl⟩
theorem s_commonOf {S : Nat × (Nat → Int32)} {d n : Nat} {I : mI} {J : mJ} {R : mR} {Q : Option Value → mI → mJ → mR → Prop} {i x y : Nat} (hi : i < 200) (hx : x < 2 ^ 63) (hy : y < 2 ^ 63) (hp : 0 < y) (hk : AW S d YChances_commonOf n n Q 9 [(8, .int (nI (i + 1))), (6, .long (lN (x % y))), (4, .long (lN y))] [] I J R n) : AW S d YChances_commonOf n n Q 9 [(8, .int (nI i)), (6, .long (lN y)), (4, .long (lN x))] [] I J R n := by
  refine a_iload 0 dChances_commonOf_9 rfl ?_
  refine a_sipushN (a := 200) dChances_commonOf_11 (by decide) ?_
  refine a_icmp_geN (tgt := 45) dChances_commonOf_14 (by decide) (by omega) (by omega) (fun c => False.elim (by omega)) (fun _ => ?_)
  refine a_lload 1 dChances_commonOf_17 rfl ?_
  refine a_lconst (v := 0) dChances_commonOf_19 (by decide) ?_
  refine a_lcmp dChances_commonOf_20 ?_
  refine a_if_eq (tgt := 45) dChances_commonOf_21 (by decide) (fun c => False.elim (absurd ((cmp_z hy).mp c) (by omega))) (fun _ => ?_)
  refine a_lload 2 dChances_commonOf_24 rfl ?_
  refine a_lload 1 dChances_commonOf_26 rfl ?_
  refine a_lrem dChances_commonOf_28 (lN_ne0 hp hy) ?_
  refine a_lstore (lv' := [(9, .long ((lN x) - (lN x) / (lN y) * (lN y))), (8, .int (nI i)), (6, .long (lN y)), (4, .long (lN x))]) dChances_commonOf_29 (by decide) rfl ?_
  refine a_lload 2 dChances_commonOf_31 rfl ?_
  refine a_lstore (lv' := [(4, .long (lN y)), (9, .long ((lN x) - (lN x) / (lN y) * (lN y))), (8, .int (nI i)), (6, .long (lN y))]) dChances_commonOf_33 (by decide) rfl ?_
  refine a_lload 1 dChances_commonOf_35 rfl ?_
  refine a_lstore (lv' := [(6, .long ((lN x) - (lN x) / (lN y) * (lN y))), (4, .long (lN y)), (9, .long ((lN x) - (lN x) / (lN y) * (lN y))), (8, .int (nI i))]) dChances_commonOf_37 (by decide) rfl ?_
  refine a_iincN (lv' := [(8, .int (nI (i + 1))), (6, .long ((lN x) - (lN x) / (lN y) * (lN y))), (4, .long (lN y)), (9, .long ((lN x) - (lN x) / (lN y) * (lN y)))]) (j := 3) dChances_commonOf_39 rfl (by decide) rfl ?_
  refine a_goto (tgt := 9) dChances_commonOf_42 (by decide) ?_
  refine a_locs (lv' := [(8, .int (nI (i + 1))), (6, .long (lN x - lN x / lN y * lN y)), (4, .long (lN y))]) [0, 1, 2] rfl ?_
  rw [pk_lRem hx hp hy]
  exact hk
theorem e_commonOf {S : Nat × (Nat → Int32)} {d n : Nat} {I : mI} {J : mJ} {R : mR} {Q : Option Value → mI → mJ → mR → Prop} {i x : Nat} (hi : i < 200) (hQ : Q (some (.long (lN x))) I J R) : AW S d YChances_commonOf n n Q 9 [(8, .int (nI i)), (6, .long (lN 0)), (4, .long (lN x))] [] I J R n := by
  refine a_iload 0 dChances_commonOf_9 rfl ?_
  refine a_sipushN (a := 200) dChances_commonOf_11 (by decide) ?_
  refine a_icmp_geN (tgt := 45) dChances_commonOf_14 (by decide) (by omega) (by omega) (fun c => False.elim (by omega)) (fun _ => ?_)
  refine a_lload 1 dChances_commonOf_17 rfl ?_
  refine a_lconst (v := 0) dChances_commonOf_19 (by decide) ?_
  refine a_lcmp dChances_commonOf_20 ?_
  refine a_if_eq (tgt := 45) dChances_commonOf_21 (by decide) (fun _ => ?_) (fun c => False.elim (c ((cmp_z (by decide)).mpr rfl)))
  refine a_lload 2 dChances_commonOf_45 rfl ?_
  exact a_lret dChances_commonOf_47 rfl hQ
theorem l_commonOf {S : Nat × (Nat → Int32)} {d n : Nat} {I : mI} {J : mJ} {R : mR} {Q : Option Value → mI → mJ → mR → Prop} : ∀ f i x y : Nat, i + 2 * f + 1 ≤ 200 → x < 2 ^ 63 → y < 2 ^ 63 → y < 2 ^ f → Q (some (.long (lN (Nat.gcd y x)))) I J R → AW S d YChances_commonOf n n Q 9 [(8, .int (nI i)), (6, .long (lN y)), (4, .long (lN x))] [] I J R n := by
  intro f
  induction f with
  | zero =>
    intro i x y hi hx hy hf hQ
    have h0 : y = 0 := by omega
    subst h0
    rw [Nat.gcd_zero_left] at hQ
    exact e_commonOf (by omega) hQ
  | succ f ih =>
    intro i x y hi hx hy hf hQ
    by_cases h0 : y = 0
    · subst h0
      rw [Nat.gcd_zero_left] at hQ
      exact e_commonOf (by omega) hQ
    · have hp : 0 < y := Nat.pos_of_ne_zero h0
      have h1 := Nat.mod_lt x hp
      rw [gcd_s hp] at hQ
      refine s_commonOf (by omega) hx hy hp ?_
      by_cases h2 : x % y = 0
      · rw [h2] at hQ ⊢
        rw [Nat.gcd_zero_left] at hQ
        exact e_commonOf (by omega) hQ
      · have hp2 : 0 < x % y := Nat.pos_of_ne_zero h2
        rw [gcd_s hp2] at hQ
        refine s_commonOf (by omega) hy (by omega) hp2 ?_
        have h3 := Nat.mod_lt y hp2
        refine ih (i + 1 + 1) _ _ (by omega) (by omega) (by omega) ?_ hQ
        have h4 : 2 * (y % (x % y)) < y := by
          have h5 := Nat.div_add_mod y (x % y)
          have h6 : 0 < y / (x % y) := Nat.div_pos (by omega) hp2
          have h7 : x % y ≤ x % y * (y / (x % y)) := Nat.le_mul_of_pos_right _ h6
          omega
        rw [Nat.pow_succ] at hf
        omega
theorem c_Chances_commonOf {S : Nat × (Nat → Int32)} {d n : Nat} {I : mI} {J : mJ} {R : mR} {x y : Nat} (hx : x < 2 ^ 63) (hy : y < 2 ^ 63)  : RUN S d YChances_commonOf [.long (lN x), .long (lN y)] I J R n (some (.long (lN (Nat.gcd y x)))) I J R n := by
  show AW S _ YChances_commonOf n n _ 0 [(0, .long (lN x)), (2, .long (lN y))] [] I J R n
  refine a_lload_n 0 dChances_commonOf_0 rfl rfl ?_
  refine a_lstore (lv' := [(4, .long (lN x)), (0, .long (lN x)), (2, .long (lN y))]) dChances_commonOf_1 (by decide) rfl ?_
  refine a_lload_n 2 dChances_commonOf_3 rfl rfl ?_
  refine a_lstore (lv' := [(6, .long (lN y)), (4, .long (lN x)), (0, .long (lN x)), (2, .long (lN y))]) dChances_commonOf_4 (by decide) rfl ?_
  refine a_iconstN (a := 0) dChances_commonOf_6 (by decide) ?_
  refine a_istore (lv' := [(8, .int (nI 0)), (6, .long (lN y)), (4, .long (lN x)), (0, .long (lN x)), (2, .long (lN y))]) dChances_commonOf_7 (by decide) rfl ?_
  refine a_locs (lv' := [(8, .int (nI 0)), (6, .long (lN y)), (4, .long (lN x))]) [0, 1, 2] rfl ?_
  exact l_commonOf 63 0 x y (by omega) hx hy hy ⟨rfl, rfl, rfl, rfl⟩
theorem abs_l {x : Int64} (h : nA x < 2 ^ 63) : (if 0 < x then x else -x) = lN (nA x) := by
  by_cases c : 0 < x
  · rw [if_pos c]; exact nA_pos (Int64.le_of_lt c)
  · rw [if_neg c]
    by_cases c2 : 0 ≤ x
    · have e : x = 0 := Int64.le_antisymm (Int64.not_lt.mp c) c2
      subst e
      rfl
    · exact nA_neg c2 h
theorem nA_lN {x : Nat} (h : x < 2 ^ 63) : nA (lN x) = x := by unfold nA; rw [pk_lT h]; rfl
theorem pt_c {a : Int64} {q : Nat} {u : Int32} (hq2 : q < 2 ^ 63) : (if u = 0 then a else lN q) / lN (Nat.gcd q (nA a)) = ptF a (lN q) u := by
  unfold ptF
  rw [nA_lN hq2, Nat.gcd_comm]
theorem c_Chances_answer {S : Nat × (Nat → Int32)} {d n : Nat} {I : mI} {J : mJ} {R : mR} (hn : 122 ≤ n) (hR : m_fin R) {u : Int32} {q : Nat} (ha : nA (J 92 0) < 2 ^ 63) (hb : J 92 1 = lN q) (hq : 0 < q) (hq2 : q < 2 ^ 63)  : RUN S (d + 1) YChances_answer [.ref 92, .int u] I J R n (some (.long (ptF (J 92 0) (lN q) u))) I J R n := by
  show AW S _ YChances_answer n n _ 0 [(0, .ref 92), (1, .int u)] [] I J R n
  refine a_aload_n 0 dChances_answer_0 rfl rfl ?_
  refine a_getl dChances_answer_1 fl1_18 rfl ly_92 (by omega) ?_
  refine a_absl dChances_answer_4 mm1_22 (Nat.le_of_ble_eq_true rfl) (Nat.le_refl _) ?_
  refine a_aload_n 0 dChances_answer_7 rfl rfl ?_
  refine a_getl dChances_answer_8 fl1_28 rfl ly_92 (by omega) ?_
  refine a_callS (Q' := m_res (some (.long (lN (Nat.gcd q (nA (J 92 0)))))) I J R) (as := [.long (if 0 < (J 92 0) then (J 92 0) else -(J 92 0)), .long (J 92 1)]) (st := []) dChances_answer_11 ml1_31 rfl (Nat.le_of_ble_eq_true rfl) (Nat.le_of_ble_eq_true rfl) rfl (Nat.le_refl _) (Nat.le_refl _) (by have h := c_Chances_commonOf (S := S) (d := d) (n := n) (I := I) (J := J) (R := R) ha hq2; rw [← abs_l ha, ← hb] at h; exact h) (m_go ?_)
  show AW _ _ _ _ _ _ _ _ [.long (lN (Nat.gcd q (nA (J 92 0))))] _ _ _ _
  refine a_lstore_n (lv' := [(2, .long (lN (Nat.gcd q (nA (J 92 0))))), (0, .ref 92), (1, .int u)]) dChances_answer_14 rfl (by decide) rfl ?_
  refine a_lload_n 0 dChances_answer_15 rfl rfl ?_
  refine a_lconst (v := 0) dChances_answer_16 (by decide) ?_
  refine a_lcmp dChances_answer_17 ?_
  refine a_if_ne (tgt := 23) dChances_answer_18 (by decide) (fun _ => ?_) (fun c => False.elim (lN_ne0 (gcd_lt (a := nA (J 92 0)) hq hq2).1 (gcd_lt hq hq2).2 (by rw [Nat.gcd_comm]; exact (lg_cmp_eq _ _).mp c)))
  refine a_iload_n 2 dChances_answer_23 rfl rfl ?_
  refine a_if_eq (tgt := 34) dChances_answer_24 (by decide) (fun c24 => ?_) (fun c24 => ?_)
  · refine a_aload_n 1 dChances_answer_34 rfl rfl ?_
    refine a_getl dChances_answer_35 fl1_18 rfl ly_92 (by omega) ?_
    refine a_lload_n 0 dChances_answer_38 rfl rfl ?_
    refine a_ldiv dChances_answer_39 (fun z => lN_ne0 (gcd_lt (a := nA (J 92 0)) hq hq2).1 (gcd_lt hq hq2).2 (by rw [Nat.gcd_comm]; exact z)) ?_
    exact a_lret dChances_answer_40 rfl ⟨by rw [← pt_c hq2, if_pos c24], rfl, rfl, rfl⟩
  · refine a_aload_n 1 dChances_answer_27 rfl rfl ?_
    refine a_getl dChances_answer_28 fl1_28 rfl ly_92 (by omega) ?_
    refine a_goto (tgt := 38) dChances_answer_31 (by decide) ?_
    refine a_lload_n 0 dChances_answer_38 rfl rfl ?_
    refine a_ldiv dChances_answer_39 (fun z => lN_ne0 (gcd_lt (a := nA (J 92 0)) hq hq2).1 (gcd_lt hq hq2).2 (by rw [Nat.gcd_comm]; exact z)) ?_
    exact a_lret dChances_answer_40 rfl ⟨by rw [← pt_c hq2, if_neg c24, hb], rfl, rfl, rfl⟩
/-- what a query of the reference leaves as it was -/
def KR (I I' : mI) : Prop := ∀ a, ¬ (a = 95 ∨ (104 ≤ a ∧ a ≤ 120)) → I' a = I a
theorem KR.refl {I : mI} : KR I I := fun _ _ => rfl
theorem KR.trans {I I' I2 : mI} (h : KR I I') (h2 : KR I' I2) : KR I I2 := fun a ha => (h2 a ha).trans (h a ha)
theorem KR.row {I I' : mI} {a : Nat} {f : Nat → Int32} (h : KR I I') (ha : a = 95 ∨ (104 ≤ a ∧ a ≤ 120)) : KR I (m_row I' a f) := fun b hb => by
  rw [m_row_ne (show b ≠ a from fun e => hb (by rw [e]; exact ha))]; exact h b hb
theorem KR.up {I I' : mI} {a k : Nat} {x : Int32} (h : KR I I') (ha : a = 95 ∨ (104 ≤ a ∧ a ≤ 120)) : KR I (m_up I' a k x) := by rw [m_up_row]; exact h.row ha
theorem KR.hd {I I' : mI} {ko : Nat} (h : KR I I') : KR I (hdI I' ko) := fun b hb => by
  rw [hd_o (fun e => hb (by omega)) (fun e => hb (by omega)) (fun e => hb (by omega)) (fun e => hb (by omega)) (fun e => hb (by omega))]; exact h b hb
def mnAS (I : mI) (ko : Nat) (b0 : Int32) (l : Nat) (k : Nat) (s : Int64) : Int64 := (if k = l then (s + (Int32.toInt64 (dsR I ko l (-1)))) else (if (f_has b0 (nI k)) = 0 then (s + 0) else (s + (Int32.toInt64 (dsR I ko l (oR I ko (19 + k)))))))
def mnA (I : mI) (ko : Nat) (b0 : Int32) (l : Nat) (s0 : Int64) : Nat → Int64
  | 0 => s0
  | k + 1 => mnAS I ko b0 l k (mnA I ko b0 l s0 k)
theorem l_mnA {S : Nat × (Nat → Int32)} {d n : Nat} {I : mI} {J : mJ} {R : mR} {ko nh nl : Nat} (hn : 122 ≤ n) (hR : m_fin R) (ho : I 95 23 = nI ko) (hk : ko < 7) (hh : I 95 24 = nI nh) (hnh : nh ≤ 6) (hl : I 95 25 = nI nl) (hnl : nl ≤ 10) (hW : WFk I ko) {b0 u : Int32} {c0 : Int64} {l : Nat} (hln : l < nl) (hs : ¬ f_has b0 (nI l) = 0)  {s0 : Int64} {Q : Option Value → mI → mJ → mR → Prop}  (hx : AW S (d + 5) YM_mean n n Q 147 [(10, .int (nI nl)), (7, .long (mnA I ko b0 l s0 nl)), (0, .ref 95), (3, .int u), (4, .int b0), (5, .long c0), (9, .int (nI l))] [] I J R n) : ∀ m k, k + m = nl → ∀ s : Int64, mnA I ko b0 l s0 k = s → AW S (d + 5) YM_mean n n Q 72 [(10, .int (nI k)), (7, .long s), (0, .ref 95), (3, .int u), (4, .int b0), (5, .long c0), (9, .int (nI l))] [] I J R n := by
  intro m
  induction m with
  | zero =>
    intro k hk9 s es
    rw [show k = nl by omega] at es ⊢
    subst es
    refine a_iload 0 dM_mean_72 rfl ?_
    refine a_aload_n 2 dM_mean_74 rfl rfl ?_
    refine a_geti dM_mean_75 fl12_262 rfl ly_95 (by omega) ?_
    rw [show I 95 25 = (nI nl) from hl]
    refine a_icmp_geN (tgt := 147) dM_mean_78 (by decide) (by omega) (by omega) (fun _ => ?_) (fun c => False.elim (by omega))
    exact hx
  | succ m ih =>
    intro k hk9 s es
    refine a_iload 0 dM_mean_72 rfl ?_
    refine a_aload_n 2 dM_mean_74 rfl rfl ?_
    refine a_geti dM_mean_75 fl12_262 rfl ly_95 (by omega) ?_
    rw [show I 95 25 = (nI nl) from hl]
    refine a_icmp_geN (tgt := 147) dM_mean_78 (by decide) (by omega) (by omega) (fun c => False.elim (by omega)) (fun _ => ?_)
    refine a_iload 4 dM_mean_81 rfl ?_
    refine a_iload 6 dM_mean_83 rfl ?_
    refine a_callS (Q' := m_res (some (.int (f_has b0 (nI l)))) I J R) (as := [.int b0, .int (nI l)]) (st := []) dM_mean_85 ml12_94 rfl (Nat.le_of_ble_eq_true rfl) (Nat.le_of_ble_eq_true rfl) rfl (Nat.le_refl _) (Nat.le_refl _) c_M_has (m_go ?_)
    show AW _ _ _ _ _ _ _ _ [.int (f_has b0 (nI l))] _ _ _ _
    refine a_if_eq (tgt := 147) dM_mean_88 (by decide) (fun c => False.elim (hs c)) (fun _ => ?_)
    refine a_lload 1 dM_mean_91 rfl ?_
    refine a_iload 0 dM_mean_93 rfl ?_
    refine a_iload 6 dM_mean_95 rfl ?_
    refine a_icmp_neN (tgt := 111) dM_mean_97 (by decide) (by omega) (by omega) (fun c97 => ?_) (fun c97 => ?_)
    · refine a_iload 4 dM_mean_111 rfl ?_
      refine a_iload 0 dM_mean_113 rfl ?_
      refine a_callS (Q' := m_res (some (.int (f_has b0 (nI k)))) I J R) (as := [.int b0, .int (nI k)]) (st := [.long s]) dM_mean_115 ml12_94 rfl (Nat.le_of_ble_eq_true rfl) (Nat.le_of_ble_eq_true rfl) rfl (Nat.le_refl _) (Nat.le_refl _) c_M_has (m_go ?_)
      show AW _ _ _ _ _ _ _ _ [.int (f_has b0 (nI k)), .long s] _ _ _ _
      refine a_if_eq (tgt := 137) dM_mean_118 (by decide) (fun c118 => ?_) (fun c118 => ?_)
      · refine a_lconst (v := 0) dM_mean_137 (by decide) ?_
        refine a_ladd dM_mean_138 ?_
        refine a_lstore (lv' := [(7, .long (s + 0)), (10, .int (nI k)), (0, .ref 95), (3, .int u), (4, .int b0), (5, .long c0), (9, .int (nI l))]) dM_mean_139 (by decide) rfl ?_
        refine a_iincN (lv' := [(10, .int (nI (k + 1))), (7, .long (s + 0)), (0, .ref 95), (3, .int u), (4, .int b0), (5, .long c0), (9, .int (nI l))]) (j := 1) dM_mean_141 rfl (by decide) rfl ?_
        refine a_goto (tgt := 72) dM_mean_144 (by decide) ?_
        have e' : mnA I ko b0 l s0 (k + 1) = (s + 0) := by
          show mnAS I ko b0 l k (mnA I ko b0 l s0 k) = _
          rw [es]
          unfold mnAS
          rw [if_neg (show ¬ (k = l) by omega), if_pos c118]
        exact ih (k + 1) (by omega) (s + 0) e'
      · refine a_aload_n 2 dM_mean_121 rfl rfl ?_
        refine a_iload 6 dM_mean_122 rfl ?_
        refine a_aload_n 2 dM_mean_124 rfl rfl ?_
        refine a_iload 0 dM_mean_125 rfl ?_
        refine a_callV (Q' := m_res (some (.int (oR I ko (19 + k)))) I J R) (as := [.int (nI k)]) (st := [.int (nI l), .ref 95, .long s]) dM_mean_127 ml12_271 rfl (Nat.le_of_ble_eq_true rfl) ly_95 rfl rfl (by decide) (by omega) (Nat.le_of_ble_eq_true rfl) rfl (Nat.le_refl _) (Nat.le_refl _) (c_M_kind hn hR (show I 95 23 = nI ko from ho) hk (by omega)) (m_go ?_)
        show AW _ _ _ _ _ _ _ _ [.int (oR I ko (19 + k)), .int (nI l), .ref 95, .long s] _ _ _ _
        refine a_callV (Q' := m_res (some (.int (dsR I ko l (oR I ko (19 + k))))) I J R) (as := [.int (nI l), .int (oR I ko (19 + k))]) (st := [.long s]) dM_mean_130 ml12_283 rfl (Nat.le_of_ble_eq_true rfl) ly_95 rfl rfl (by decide) (by omega) (Nat.le_of_ble_eq_true rfl) rfl (Nat.le_refl _) (Nat.le_refl _) (c_M_doesBy hn hR ho hk (by omega) hW (hW.ok (by omega))) (m_go ?_)
        show AW _ _ _ _ _ _ _ _ [.int (dsR I ko l (oR I ko (19 + k))), .long s] _ _ _ _
        refine a_i2l dM_mean_133 ?_
        refine a_goto (tgt := 138) dM_mean_134 (by decide) ?_
        refine a_ladd dM_mean_138 ?_
        refine a_lstore (lv' := [(7, .long (s + (Int32.toInt64 (dsR I ko l (oR I ko (19 + k)))))), (10, .int (nI k)), (0, .ref 95), (3, .int u), (4, .int b0), (5, .long c0), (9, .int (nI l))]) dM_mean_139 (by decide) rfl ?_
        refine a_iincN (lv' := [(10, .int (nI (k + 1))), (7, .long (s + (Int32.toInt64 (dsR I ko l (oR I ko (19 + k)))))), (0, .ref 95), (3, .int u), (4, .int b0), (5, .long c0), (9, .int (nI l))]) (j := 1) dM_mean_141 rfl (by decide) rfl ?_
        refine a_goto (tgt := 72) dM_mean_144 (by decide) ?_
        have e' : mnA I ko b0 l s0 (k + 1) = (s + (Int32.toInt64 (dsR I ko l (oR I ko (19 + k))))) := by
          show mnAS I ko b0 l k (mnA I ko b0 l s0 k) = _
          rw [es]
          unfold mnAS
          rw [if_neg (show ¬ (k = l) by omega), if_neg c118]
        exact ih (k + 1) (by omega) (s + (Int32.toInt64 (dsR I ko l (oR I ko (19 + k))))) e'
    · refine a_aload_n 2 dM_mean_100 rfl rfl ?_
      refine a_iload 6 dM_mean_101 rfl ?_
      refine a_iconst (v := -1) dM_mean_103 (by decide) ?_
      refine a_callV (Q' := m_res (some (.int (dsR I ko l (-1)))) I J R) (as := [.int (nI l), .int (-1)]) (st := [.long s]) dM_mean_104 ml12_283 rfl (Nat.le_of_ble_eq_true rfl) ly_95 rfl rfl (by decide) (by omega) (Nat.le_of_ble_eq_true rfl) rfl (Nat.le_refl _) (Nat.le_refl _) (c_M_doesBy hn hR ho hk (by omega) hW kOK_m1) (m_go ?_)
      show AW _ _ _ _ _ _ _ _ [.int (dsR I ko l (-1)), .long s] _ _ _ _
      refine a_i2l dM_mean_107 ?_
      refine a_goto (tgt := 138) dM_mean_108 (by decide) ?_
      refine a_ladd dM_mean_138 ?_
      refine a_lstore (lv' := [(7, .long (s + (Int32.toInt64 (dsR I ko l (-1))))), (10, .int (nI k)), (0, .ref 95), (3, .int u), (4, .int b0), (5, .long c0), (9, .int (nI l))]) dM_mean_139 (by decide) rfl ?_
      refine a_iincN (lv' := [(10, .int (nI (k + 1))), (7, .long (s + (Int32.toInt64 (dsR I ko l (-1))))), (0, .ref 95), (3, .int u), (4, .int b0), (5, .long c0), (9, .int (nI l))]) (j := 1) dM_mean_141 rfl (by decide) rfl ?_
      refine a_goto (tgt := 72) dM_mean_144 (by decide) ?_
      have e' : mnA I ko b0 l s0 (k + 1) = (s + (Int32.toInt64 (dsR I ko l (-1)))) := by
        show mnAS I ko b0 l k (mnA I ko b0 l s0 k) = _
        rw [es]
        unfold mnAS
        rw [if_pos (show k = l by omega)]
      exact ih (k + 1) (by omega) (s + (Int32.toInt64 (dsR I ko l (-1)))) e'
def mnBS (I : mI) (ko nl : Nat) (b0 : Int32) (k : Nat) (s : Int64) : Int64 := (if f_has b0 (nI k) = 0 then s else (mnA I ko b0 k s nl))
def mnB (I : mI) (ko nl : Nat) (b0 : Int32) (s0 : Int64) : Nat → Int64
  | 0 => s0
  | k + 1 => mnBS I ko nl b0 k (mnB I ko nl b0 s0 k)
theorem l_mnB {S : Nat × (Nat → Int32)} {d n : Nat} {I : mI} {J : mJ} {R : mR} {ko nh nl : Nat} (hn : 122 ≤ n) (hR : m_fin R) (ho : I 95 23 = nI ko) (hk : ko < 7) (hh : I 95 24 = nI nh) (hnh : nh ≤ 6) (hl : I 95 25 = nI nl) (hnl : nl ≤ 10) (hW : WFk I ko) {b0 u : Int32} {c0 : Int64}  {s0 : Int64} {Q : Option Value → mI → mJ → mR → Prop}  (hx : AW S (d + 5) YM_mean n n Q 153 [(9, .int (nI nl)), (7, .long (mnB I ko nl b0 s0 nl)), (0, .ref 95), (3, .int u), (4, .int b0), (5, .long c0)] [] I J R n) : ∀ m k, k + m = nl → ∀ s : Int64, mnB I ko nl b0 s0 k = s → AW S (d + 5) YM_mean n n Q 60 [(9, .int (nI k)), (7, .long s), (0, .ref 95), (3, .int u), (4, .int b0), (5, .long c0)] [] I J R n := by
  intro m
  induction m with
  | zero =>
    intro k hk9 s es
    rw [show k = nl by omega] at es ⊢
    subst es
    refine a_iload 0 dM_mean_60 rfl ?_
    refine a_aload_n 2 dM_mean_62 rfl rfl ?_
    refine a_geti dM_mean_63 fl12_262 rfl ly_95 (by omega) ?_
    rw [show I 95 25 = (nI nl) from hl]
    refine a_icmp_geN (tgt := 153) dM_mean_66 (by decide) (by omega) (by omega) (fun _ => ?_) (fun c => False.elim (by omega))
    exact hx
  | succ m ih =>
    intro k hk9 s es
    refine a_iload 0 dM_mean_60 rfl ?_
    refine a_aload_n 2 dM_mean_62 rfl rfl ?_
    refine a_geti dM_mean_63 fl12_262 rfl ly_95 (by omega) ?_
    rw [show I 95 25 = (nI nl) from hl]
    refine a_icmp_geN (tgt := 153) dM_mean_66 (by decide) (by omega) (by omega) (fun c => False.elim (by omega)) (fun _ => ?_)
    refine a_iconstN (a := 0) dM_mean_69 (by decide) ?_
    refine a_istore (lv' := [(10, .int (nI 0)), (9, .int (nI k)), (7, .long s), (0, .ref 95), (3, .int u), (4, .int b0), (5, .long c0)]) dM_mean_70 (by decide) rfl ?_
    by_cases hs : f_has b0 (nI k) = 0
    · refine a_iload 0 dM_mean_72 rfl ?_
      refine a_aload_n 3 dM_mean_74 rfl rfl ?_
      refine a_geti dM_mean_75 fl12_262 rfl ly_95 (by omega) ?_
      rw [show I 95 25 = (nI nl) from hl]
      refine a_icmp_geN (tgt := 147) dM_mean_78 (by decide) (by omega) (by omega) (fun c => False.elim (by omega)) (fun _ => ?_)
      refine a_iload 5 dM_mean_81 rfl ?_
      refine a_iload 1 dM_mean_83 rfl ?_
      refine a_callS (Q' := m_res (some (.int (f_has b0 (nI k)))) I J R) (as := [.int b0, .int (nI k)]) (st := []) dM_mean_85 ml12_94 rfl (Nat.le_of_ble_eq_true rfl) (Nat.le_of_ble_eq_true rfl) rfl (Nat.le_refl _) (Nat.le_refl _) c_M_has (m_go ?_)
      show AW _ _ _ _ _ _ _ _ [.int (f_has b0 (nI k))] _ _ _ _
      refine a_if_eq (tgt := 147) dM_mean_88 (by decide) (fun _ => ?_) (fun c => False.elim (c hs))
      refine a_iincN (lv' := [(9, .int (nI (k + 1))), (10, .int (nI 0)), (7, .long s), (0, .ref 95), (3, .int u), (4, .int b0), (5, .long c0)]) (j := 1) dM_mean_147 rfl (by decide) rfl ?_
      refine a_goto (tgt := 60) dM_mean_150 (by decide) ?_
      have e' : mnB I ko nl b0 s0 (k + 1) = s := by
        show mnBS I ko nl b0 k (mnB I ko nl b0 s0 k) = _
        rw [es]
        unfold mnBS
        rw [if_pos hs]
      refine a_locs (lv' := [(9, .int (nI (k + 1))), (7, .long s), (0, .ref 95), (3, .int u), (4, .int b0), (5, .long c0)]) [0, 2, 3, 4, 5, 6] rfl ?_
      exact ih (k + 1) (by omega) s e'
    · refine a_locs (lv' := [(10, .int (nI 0)), (7, .long s), (0, .ref 95), (3, .int u), (4, .int b0), (5, .long c0), (9, .int (nI k))]) [0, 2, 3, 4, 5, 6, 1] rfl ?_
      refine l_mnA (s0 := s) hn hR ho hk hh hnh hl hnl hW (l := k) (by omega) hs ?_ nl 0 (by omega) _ rfl
      refine a_iincN (lv' := [(9, .int (nI (k + 1))), (10, .int (nI nl)), (7, .long (mnA I ko b0 k s nl)), (0, .ref 95), (3, .int u), (4, .int b0), (5, .long c0)]) (j := 6) dM_mean_147 rfl (by decide) rfl ?_
      refine a_goto (tgt := 60) dM_mean_150 (by decide) ?_
      have e' : mnB I ko nl b0 s0 (k + 1) = (mnA I ko b0 k s nl) := by
        show mnBS I ko nl b0 k (mnB I ko nl b0 s0 k) = _
        rw [es]
        unfold mnBS
        rw [if_neg hs]
      refine a_locs (lv' := [(9, .int (nI (k + 1))), (7, .long (mnA I ko b0 k s nl)), (0, .ref 95), (3, .int u), (4, .int b0), (5, .long c0)]) [0, 2, 3, 4, 5, 6] rfl ?_
      exact ih (k + 1) (by omega) (mnA I ko b0 k s nl) e'
theorem bmod_le (z : Int) : (z.bmod (2 ^ 64)).natAbs ≤ z.natAbs := by
  unfold Int.bmod
  simp only []
  split <;> omega
theorem nA_add (x y : Int64) : nA (x + y) ≤ nA x + nA y := by
  unfold nA
  rw [Int64.toInt_add]
  have := bmod_le (x.toInt + y.toInt)
  omega
theorem nA_mul (x y : Int64) : nA (x * y) ≤ nA x * nA y := by
  unfold nA
  rw [Int64.toInt_mul]
  have := bmod_le (x.toInt * y.toInt)
  rw [Int.natAbs_mul] at this
  exact this
theorem nA_i (x : Int32) : nA x.toInt64 ≤ 2 ^ 31 := by
  unfold nA
  rw [Int32.toInt_toInt64]
  have h1 := Int32.minValue_le_toInt x
  have h2 := Int32.toInt_lt x
  have h3 : Int32.minValue.toInt = -2147483648 := by decide
  omega
theorem nA_0 : nA 0 = 0 := rfl
theorem mnA_le {I : mI} {ko l : Nat} {b0 : Int32} {s0 : Int64} : ∀ k, nA (mnA I ko b0 l s0 k) ≤ nA s0 + k * 2 ^ 31 := by
  intro k
  induction k with
  | zero => unfold mnA; omega
  | succ k ih =>
    unfold mnA mnAS
    have a1 := nA_i (dsR I ko l (-1))
    have a2 := nA_i (dsR I ko l (oR I ko (19 + k)))
    have b1 := nA_add (mnA I ko b0 l s0 k) (dsR I ko l (-1)).toInt64
    have b2 := nA_add (mnA I ko b0 l s0 k) (dsR I ko l (oR I ko (19 + k))).toInt64
    have b3 := nA_add (mnA I ko b0 l s0 k) 0
    rw [nA_0] at b3
    split
    · omega
    · split <;> omega
theorem mnB_le {I : mI} {ko nl : Nat} (hnl : nl ≤ 10) {b0 : Int32} {s0 : Int64} : ∀ k, nA (mnB I ko nl b0 s0 k) ≤ nA s0 + k * 21474836480 := by
  intro k
  induction k with
  | zero => unfold mnB; omega
  | succ k ih =>
    unfold mnB mnBS
    split
    · exact Nat.le_trans ih (Nat.add_le_add_left (Nat.mul_le_mul_right _ (Nat.le_succ k)) _)
    · have := mnA_le (I := I) (ko := ko) (l := k) (b0 := b0) (s0 := mnB I ko nl b0 s0 k) nl
      refine Nat.le_trans this (Nat.le_trans (Nat.add_le_add ih (show nl * 2 ^ 31 ≤ 21474836480 by omega)) ?_)
      rw [Nat.succ_mul]
      exact Nat.le_of_eq (Nat.add_assoc _ _ _)
theorem gr1_l {c : Nat} (h : c < 2 ^ 31) : (f_gr (nI 1) (nI c)).toInt64 = lN (max 1 c) := by
  unfold f_gr
  by_cases h1 : c < 1
  · rw [if_pos ((nI_ltI h (by decide)).mpr h1), nI_l (by decide)]
    congr 1; omega
  · rw [if_neg (fun q => h1 ((nI_ltI h (by decide)).mp q)), nI_l h]
    congr 1; omega
abbrev lsR (I : mI) (h nl : Nat) : Int32 := ltsN (I 106) (nI h) nl
/-- the mean, of the reference -/
def meR (I : mI) (ko h nl : Nat) (u : Int32) : Int64 := ptF (mnB I ko nl (lsR I h nl) (lN (max 1 (onesN (lsR I h nl) 10)) * (oR I ko (3 + h)).toInt64) nl) (lN (max 1 (onesN (lsR I h nl) 10))) u
theorem b_M_mean {S : Nat × (Nat → Int32)} {d n : Nat} {I : mI} {J : mJ} {R : mR} {ko nh nl : Nat} (hn : 122 ≤ n) (hR : m_fin R) (ho : I 95 23 = nI ko) (hk : ko < 7) (hh : I 95 24 = nI nh) (hnh : nh ≤ 6) (hl : I 95 25 = nI nl) (hnl : nl ≤ 10) (hW : WFk I ko) {h : Nat} (hh6 : h < nh) {u : Int32}  {Q : Option Value → mI → mJ → mR → Prop} (hQ : Q (some (.long (meR I ko h nl u))) I J R) : AW S (d + 5) YM_mean n n Q 25 [(0, .ref 95), (2, .int (nI h)), (3, .int u)] [] I J R n := by
  have ho10 := onesN_le (ltsN (I 106) (nI h) nl) 10
  refine a_aload_n 0 dM_mean_25 rfl rfl ?_
  refine a_iload_n 1 dM_mean_26 rfl rfl ?_
  refine a_callV (Q' := m_res (some (.int (ltsN (I 106) (nI h) nl))) I J R) (as := [.int (nI h)]) (st := []) dM_mean_27 ml12_362 rfl (Nat.le_of_ble_eq_true rfl) ly_95 rfl rfl (by decide) (by omega) (Nat.le_of_ble_eq_true rfl) rfl (Nat.le_refl _) (Nat.le_refl _) (c_M_lettersOf (nl := nl) hn hR hl hnl) (m_go ?_)
  show AW _ _ _ _ _ _ _ _ [.int (ltsN (I 106) (nI h) nl)] _ _ _ _
  refine a_istore (lv' := [(4, .int (ltsN (I 106) (nI h) nl)), (0, .ref 95), (2, .int (nI h)), (3, .int u)]) dM_mean_30 (by decide) rfl ?_
  refine a_iconstN (a := 1) dM_mean_32 (by decide) ?_
  refine a_iload 0 dM_mean_33 rfl ?_
  refine a_callS (Q' := m_res (some (.int (nI (onesN (ltsN (I 106) (nI h) nl) 10)))) I J R) (as := [.int (ltsN (I 106) (nI h) nl)]) (st := [.int (nI 1)]) dM_mean_35 ml12_369 rfl (Nat.le_of_ble_eq_true rfl) (Nat.le_of_ble_eq_true rfl) rfl (Nat.le_refl _) (Nat.le_refl _) c_M_ones (m_go ?_)
  show AW _ _ _ _ _ _ _ _ [.int (nI (onesN (ltsN (I 106) (nI h) nl) 10)), .int (nI 1)] _ _ _ _
  refine a_callS (Q' := m_res (some (.int (f_gr (nI 1) (nI (onesN (ltsN (I 106) (nI h) nl) 10))))) I J R) (as := [.int (nI 1), .int (nI (onesN (ltsN (I 106) (nI h) nl) 10))]) (st := []) dM_mean_38 ml12_167 rfl (Nat.le_of_ble_eq_true rfl) (Nat.le_of_ble_eq_true rfl) rfl (Nat.le_refl _) (Nat.le_refl _) c_M_greater (m_go ?_)
  show AW _ _ _ _ _ _ _ _ [.int (f_gr (nI 1) (nI (onesN (ltsN (I 106) (nI h) nl) 10)))] _ _ _ _
  refine a_i2l dM_mean_41 ?_
  rw [show (Int32.toInt64 (f_gr (nI 1) (nI (onesN (ltsN (I 106) (nI h) nl) 10)))) = (lN (max 1 (onesN (ltsN (I 106) (nI h) nl) 10))) from (gr1_l (by omega))]
  refine a_lstore (lv' := [(5, .long (lN (max 1 (onesN (ltsN (I 106) (nI h) nl) 10)))), (4, .int (ltsN (I 106) (nI h) nl)), (0, .ref 95), (2, .int (nI h)), (3, .int u)]) dM_mean_42 (by decide) rfl ?_
  refine a_lload 0 dM_mean_44 rfl ?_
  refine a_aload_n 2 dM_mean_46 rfl rfl ?_
  refine a_iconstN (a := 3) dM_mean_47 (by decide) ?_
  refine a_iload_n 3 dM_mean_48 rfl rfl ?_
  refine a_iaddN (a := 3) (b := h) dM_mean_49 ?_
  refine a_callV (Q' := m_res (some (.int (oR I ko (3 + h)))) I J R) (as := [.int (nI (3 + h))]) (st := [.long (lN (max 1 (onesN (ltsN (I 106) (nI h) nl) 10)))]) dM_mean_50 ml12_255 rfl (Nat.le_of_ble_eq_true rfl) ly_95 rfl rfl (by decide) (by omega) (Nat.le_of_ble_eq_true rfl) rfl (Nat.le_refl _) (Nat.le_refl _) (c_M_of hn hR ho (by omega)) (m_go ?_)
  show AW _ _ _ _ _ _ _ _ [.int (oR I ko (3 + h)), .long (lN (max 1 (onesN (ltsN (I 106) (nI h) nl) 10)))] _ _ _ _
  refine a_i2l dM_mean_53 ?_
  refine a_lmul dM_mean_54 ?_
  refine a_lstore (lv' := [(7, .long ((lN (max 1 (onesN (ltsN (I 106) (nI h) nl) 10))) * (Int32.toInt64 (oR I ko (3 + h))))), (5, .long (lN (max 1 (onesN (ltsN (I 106) (nI h) nl) 10)))), (4, .int (ltsN (I 106) (nI h) nl)), (0, .ref 95), (2, .int (nI h)), (3, .int u)]) dM_mean_55 (by decide) rfl ?_
  refine a_iconstN (a := 0) dM_mean_57 (by decide) ?_
  refine a_istore (lv' := [(9, .int (nI 0)), (7, .long ((lN (max 1 (onesN (ltsN (I 106) (nI h) nl) 10))) * (Int32.toInt64 (oR I ko (3 + h))))), (5, .long (lN (max 1 (onesN (ltsN (I 106) (nI h) nl) 10)))), (4, .int (ltsN (I 106) (nI h) nl)), (0, .ref 95), (2, .int (nI h)), (3, .int u)]) dM_mean_58 (by decide) rfl ?_
  refine a_locs (lv' := [(9, .int (nI 0)), (7, .long ((lN (max 1 (onesN (ltsN (I 106) (nI h) nl) 10))) * (Int32.toInt64 (oR I ko (3 + h))))), (0, .ref 95), (3, .int u), (4, .int (ltsN (I 106) (nI h) nl)), (5, .long (lN (max 1 (onesN (ltsN (I 106) (nI h) nl) 10))))]) [0, 1, 4, 6, 3, 2] rfl ?_
  refine l_mnB (s0 := (lN (max 1 (onesN (ltsN (I 106) (nI h) nl) 10)) * (Int32.toInt64 (oR I ko (3 + h))))) hn hR ho hk hh hnh hl hnl hW ?_ nl 0 (by omega) _ rfl
  refine a_lload 1 dM_mean_153 rfl ?_
  refine a_lload 5 dM_mean_155 rfl ?_
  refine a_iload_n 3 dM_mean_157 rfl rfl ?_
  refine a_callS (Q' := m_res (some (.long (ptF (mnB I ko nl (ltsN (I 106) (nI h) nl) (lN (max 1 (onesN (ltsN (I 106) (nI h) nl) 10)) * (Int32.toInt64 (oR I ko (3 + h)))) nl) (lN (max 1 (onesN (ltsN (I 106) (nI h) nl) 10))) u))) I J R) (as := [.long (mnB I ko nl (ltsN (I 106) (nI h) nl) (lN (max 1 (onesN (ltsN (I 106) (nI h) nl) 10)) * (Int32.toInt64 (oR I ko (3 + h)))) nl), .long (lN (max 1 (onesN (ltsN (I 106) (nI h) nl) 10))), .int u]) (st := []) dM_mean_158 ml12_381 rfl (Nat.le_of_ble_eq_true rfl) (Nat.le_of_ble_eq_true rfl) rfl (Nat.le_refl _) (Nat.le_refl _) (c_M_part (by rw [nA_lN (by omega)]; omega) (by have h1 := mnB_le (I := I) (ko := ko) hnl (b0 := ltsN (I 106) (nI h) nl) (s0 := (lN (max 1 (onesN (ltsN (I 106) (nI h) nl) 10)) * (Int32.toInt64 (oR I ko (3 + h))))) nl; have h2 := nA_mul (lN (max 1 (onesN (ltsN (I 106) (nI h) nl) 10))) (oR I ko (3 + h)).toInt64; rw [nA_lN (by omega)] at h2; have h3 := nA_i (oR I ko (3 + h)); have h4 : max 1 (onesN (ltsN (I 106) (nI h) nl) 10) * nA (oR I ko (3 + h)).toInt64 ≤ 10 * 2 ^ 31 := Nat.mul_le_mul (by omega) h3; have h5 : nl * 21474836480 ≤ 10 * 21474836480 := Nat.mul_le_mul_right _ hnl; omega) (by rw [nA_lN (by omega)]; omega)) (m_go ?_)
  show AW _ _ _ _ _ _ _ _ [.long (ptF (mnB I ko nl (ltsN (I 106) (nI h) nl) (lN (max 1 (onesN (ltsN (I 106) (nI h) nl) 10)) * (Int32.toInt64 (oR I ko (3 + h)))) nl) (lN (max 1 (onesN (ltsN (I 106) (nI h) nl) 10))) u)] _ _ _ _
  exact a_lret dM_mean_161 rfl hQ
