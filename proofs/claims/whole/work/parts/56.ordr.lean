/-- a set without a letter -/
def rmN (t l : Nat) : Nat := uN32 (nI t &&& ((nI 1 <<< (nI l &&& 31)) ^^^ -1))
theorem rm_nI (t l : Nat) : (nI t &&& ((nI 1 <<< (nI l &&& 31)) ^^^ -1)) = nI (rmN t l) := uN32_nI _
theorem rm_bt {t l i : Nat} (hl : l < 32) (hi : i < 32) : (rmN t l).testBit i = (t.testBit i && !decide (i = l)) := by
  unfold rmN
  rw [uN32_bt, b_and, bt_nI hi, bt_not _ hi]
  show (_ && !bt (1 <<< (nI l &&& 31)) i) = _
  rw [bt_sh hl hi]
theorem rm_lt {t l m : Nat} (hl : l < 32) (ht : t < 2 ^ m) : rmN t l < 2 ^ m := by
  apply uN32_lt
  intro i hi
  rw [b_and, nI_big ht hi, Bool.false_and]
theorem rm_1024 {t l : Nat} (hl : l < 32) (ht : t < 1024) : rmN t l < 1024 := rm_lt (m := 10) hl ht
theorem lts_bt (f : Nat → Int32) (h : Int32) {i : Nat} (hi : i < 32) : ∀ k, k ≤ 31 → bt (ltsN f h k) i = decide (i < k ∧ f i = h) := by
  intro k
  induction k with
  | zero => intro _; rw [show ltsN f h 0 = 0 from rfl, b_0]; simp
  | succ k ih =>
    intro hk
    have e := ih (by omega)
    unfold ltsN
    by_cases c : f k = h
    · rw [if_pos c, b_or, e]
      show (_ || bt (1 <<< (nI k &&& 31)) i) = _
      rw [bt_sh (by omega) hi]
      by_cases h1 : i = k
      · subst h1; simp [c]
      · have : (i < k + 1) = (i < k) := by apply propext; omega
        simp [h1, this]
    · rw [if_neg c]
      show bt (ltsN f h k ||| nI 0) i = _
      rw [b_or, e, show bt (nI 0) i = false from b_0 i, Bool.or_false]
      by_cases h1 : i = k
      · subst h1; simp [c]
      · have : (i < k + 1) = (i < k) := by apply propext; omega
        simp [this]
def ltN (f : Nat → Int32) (h : Int32) (k : Nat) : Nat := uN32 (ltsN f h k)
theorem lt_nI (f : Nat → Int32) (h : Int32) (k : Nat) : ltsN f h k = nI (ltN f h k) := uN32_nI _
theorem lt_tb {f : Nat → Int32} {h : Int32} {i k : Nat} (hi : i < 32) (hk : k ≤ 31) : (ltN f h k).testBit i = decide (i < k ∧ f i = h) := by
  unfold ltN
  rw [uN32_bt]
  exact lts_bt f h hi k hk
theorem lt_lt {f : Nat → Int32} {h : Int32} {k : Nat} (hk : k ≤ 10) : ltN f h k < 1024 := by
  apply uN32_lt (m := 10)
  intro i hi
  by_cases c : i < 32
  · rw [lts_bt f h c k (by omega)]
    simp
    intro hc
    omega
  · exact b_big (by omega)
def obR (I : mI) (ko : Nat) (B : Nat → Int32) (t l : Nat) (x : Int32) : Int32 := dsR I ko l x + B (5 * rmN t l + 1 + kdN I ko l)
theorem c_M_orderBy {S : Nat × (Nat → Int32)} {d n : Nat} {I : mI} {J : mJ} {R : mR} {ko nh nl : Nat} (hn : 122 ≤ n) (hR : m_fin R) (ho : I 95 23 = nI ko) (hk : ko < 7) (hh : I 95 24 = nI nh) (hnh : nh ≤ 6) (hl : I 95 25 = nI nl) (hnl : nl ≤ 10) (hW : WFk I ko) {B : Nat → Int32} {t l : Nat} {x : Int32} (ht : t < 1024) (hl10 : l < 10) (hx : kOK x) : RUN S (d + 4) YM_orderBy [.ref 95, .int (nI t), .int (nI l), .int x] (m_row I 110 B) J R n (some (.int (obR I ko B t l x))) (m_row I 110 B) J R n := by
  have hr9 := rm_1024 (l := l) (by omega) ht
  have hk9 := (hW l hl10).2
  show AW S _ YM_orderBy n n _ 0 [(0, .ref 95), (1, .int (nI t)), (2, .int (nI l)), (3, .int x)] [] (m_row I 110 B) J R n
  refine a_aload_n 0 dM_orderBy_0 rfl rfl ?_
  refine a_iload_n 2 dM_orderBy_1 rfl rfl ?_
  refine a_iload_n 3 dM_orderBy_2 rfl rfl ?_
  refine a_callV (Q' := m_res (some (.int (dsR I ko l x))) (m_row I 110 B) J R) (as := [.int (nI l), .int x]) (st := []) dM_orderBy_3 ml12_283 rfl (Nat.le_of_ble_eq_true rfl) ly_95 rfl rfl (by decide) (by omega) (Nat.le_of_ble_eq_true rfl) rfl (Nat.le_refl _) (Nat.le_refl _) (c_M_doesBy (I := (m_row I 110 B)) hn hR ho hk (by omega) hW hx) (m_go ?_)
  show AW _ _ _ _ _ _ _ _ [.int (dsR I ko l x)] _ _ _ _
  refine a_aload_n 0 dM_orderBy_6 rfl rfl ?_
  refine a_geta (r := 110) dM_orderBy_7 fl12_53 rfl ly_95 (by omega) (rf_95_38 hR) ?_
  refine a_iconstN (a := 5) dM_orderBy_10 (by decide) ?_
  refine a_iload_n 1 dM_orderBy_11 rfl rfl ?_
  refine a_iconstN (a := 1) dM_orderBy_12 (by decide) ?_
  refine a_iload_n 2 dM_orderBy_13 rfl rfl ?_
  refine a_ishl dM_orderBy_14 ?_
  refine a_iconst (v := -1) dM_orderBy_15 (by decide) ?_
  refine a_ixor dM_orderBy_16 ?_
  refine a_iand dM_orderBy_17 ?_
  rw [show ((nI t) &&& (((nI 1) <<< ((nI l) &&& 31)) ^^^ (-1))) = (nI (rmN t l)) from (rm_nI t l)]
  refine a_imulN (a := 5) (b := (rmN t l)) dM_orderBy_18 ?_
  refine a_iconstN (a := 1) dM_orderBy_19 (by decide) ?_
  refine a_iaddN (a := (5 * (rmN t l))) (b := 1) dM_orderBy_20 ?_
  refine a_aload_n 0 dM_orderBy_21 rfl rfl ?_
  refine a_iload_n 2 dM_orderBy_22 rfl rfl ?_
  refine a_callV (Q' := m_res (some (.int (oR I ko (19 + l)))) (m_row I 110 B) J R) (as := [.int (nI l)]) (st := [.int (nI ((5 * (rmN t l)) + 1)), .ref 110, .int (dsR I ko l x)]) dM_orderBy_23 ml12_271 rfl (Nat.le_of_ble_eq_true rfl) ly_95 rfl rfl (by decide) (by omega) (Nat.le_of_ble_eq_true rfl) rfl (Nat.le_refl _) (Nat.le_refl _) (c_M_kind hn hR (show (m_row I 110 B) 95 23 = nI ko from ho) hk (by omega)) (m_go ?_)
  show AW _ _ _ _ _ _ _ _ [.int (oR I ko (19 + l)), .int (nI ((5 * (rmN t l)) + 1)), .ref 110, .int (dsR I ko l x)] _ _ _ _
  rw [show (oR I ko (19 + l)) = (nI (kdN I ko l)) from (hW l hl10).1]
  refine a_iaddN (a := ((5 * (rmN t l)) + 1)) (b := (kdN I ko l)) dM_orderBy_26 ?_
  refine a_ialdN (a := (((5 * (rmN t l)) + 1) + (kdN I ko l))) dM_orderBy_27 ly_110 (by omega) (by omega) (by decide) ?_
  rw [show (m_row I 110 B) 110 (((5 * (rmN t l)) + 1) + (kdN I ko l)) = B (((5 * (rmN t l)) + 1) + (kdN I ko l)) from rfl]
  refine a_iadd dM_orderBy_28 ?_
  exact a_iret dM_orderBy_29 rfl ⟨rfl, rfl, rfl, rfl⟩
def foAS (I : mI) (ko : Nat) (B : Nat → Int32) (t : Nat) (u x : Int32) (k : Nat) (s : Int32) : Int32 := (if (f_has (nI t) (nI k)) = 0 then s else (if u = 0 then (f_gr s (obR I ko B t k x)) else (f_le s (obR I ko B t k x))))
def foA (I : mI) (ko : Nat) (B : Nat → Int32) (t : Nat) (u x : Int32) (s0 : Int32) : Nat → Int32
  | 0 => s0
  | k + 1 => foAS I ko B t u x k (foA I ko B t u x s0 k)
theorem l_foA {S : Nat × (Nat → Int32)} {d n : Nat} {I : mI} {J : mJ} {R : mR} {ko nh nl : Nat} (hn : 122 ≤ n) (hR : m_fin R) (ho : I 95 23 = nI ko) (hk : ko < 7) (hh : I 95 24 = nI nh) (hnh : nh ≤ 6) (hl : I 95 25 = nI nl) (hnl : nl ≤ 10) (hW : WFk I ko) {B : Nat → Int32} {t : Nat} {am u x : Int32} (ht : t < 1024) (hko : kOK x)  {s0 : Int32} {Q : Option Value → mI → mJ → mR → Prop}  (hx : AW S (d + 6) YM_findOrders n n Q 110 [(6, .int (nI nl)), (5, .int (foA I ko B t u x s0 nl)), (0, .ref 95), (1, .int am), (2, .int u), (3, .int (nI t)), (4, .int x)] [] (m_row I 110 B) J R n) : ∀ m k, k + m = nl → ∀ s : Int32, foA I ko B t u x s0 k = s → AW S (d + 6) YM_findOrders n n Q 52 [(6, .int (nI k)), (5, .int s), (0, .ref 95), (1, .int am), (2, .int u), (3, .int (nI t)), (4, .int x)] [] (m_row I 110 B) J R n := by
  intro m
  induction m with
  | zero =>
    intro k hk9 s es
    rw [show k = nl by omega] at es ⊢
    subst es
    refine a_iload 0 dM_findOrders_52 rfl ?_
    refine a_aload_n 2 dM_findOrders_54 rfl rfl ?_
    refine a_geti dM_findOrders_55 fl12_262 rfl ly_95 (by omega) ?_
    rw [show (m_row I 110 B) 95 25 = (nI nl) from hl]
    refine a_icmp_geN (tgt := 110) dM_findOrders_58 (by decide) (by omega) (by omega) (fun _ => ?_) (fun c => False.elim (by omega))
    exact hx
  | succ m ih =>
    intro k hk9 s es
    refine a_iload 0 dM_findOrders_52 rfl ?_
    refine a_aload_n 2 dM_findOrders_54 rfl rfl ?_
    refine a_geti dM_findOrders_55 fl12_262 rfl ly_95 (by omega) ?_
    rw [show (m_row I 110 B) 95 25 = (nI nl) from hl]
    refine a_icmp_geN (tgt := 110) dM_findOrders_58 (by decide) (by omega) (by omega) (fun c => False.elim (by omega)) (fun _ => ?_)
    refine a_iload_n 5 dM_findOrders_61 rfl rfl ?_
    refine a_iload 0 dM_findOrders_62 rfl ?_
    refine a_callS (Q' := m_res (some (.int (f_has (nI t) (nI k)))) (m_row I 110 B) J R) (as := [.int (nI t), .int (nI k)]) (st := []) dM_findOrders_64 ml12_94 rfl (Nat.le_of_ble_eq_true rfl) (Nat.le_of_ble_eq_true rfl) rfl (Nat.le_refl _) (Nat.le_refl _) c_M_has (m_go ?_)
    show AW _ _ _ _ _ _ _ _ [.int (f_has (nI t) (nI k))] _ _ _ _
    refine a_if_eq (tgt := 104) dM_findOrders_67 (by decide) (fun c67 => ?_) (fun c67 => ?_)
    · refine a_iincN (lv' := [(6, .int (nI (k + 1))), (5, .int s), (0, .ref 95), (1, .int am), (2, .int u), (3, .int (nI t)), (4, .int x)]) (j := 0) dM_findOrders_104 rfl (by decide) rfl ?_
      refine a_goto (tgt := 52) dM_findOrders_107 (by decide) ?_
      have e' : foA I ko B t u x s0 (k + 1) = s := by
        show foAS I ko B t u x k (foA I ko B t u x s0 k) = _
        rw [es]
        unfold foAS
        rw [if_pos c67]
      exact ih (k + 1) (by omega) s e'
    · refine a_aload_n 2 dM_findOrders_70 rfl rfl ?_
      refine a_iload_n 5 dM_findOrders_71 rfl rfl ?_
      refine a_iload 0 dM_findOrders_72 rfl ?_
      refine a_iload 6 dM_findOrders_74 rfl ?_
      refine a_callV (Q' := m_res (some (.int (obR I ko B t k x))) (m_row I 110 B) J R) (as := [.int (nI t), .int (nI k), .int x]) (st := []) dM_findOrders_76 ml12_351 rfl (Nat.le_of_ble_eq_true rfl) ly_95 rfl rfl (by decide) (by omega) (Nat.le_of_ble_eq_true rfl) rfl (Nat.le_refl _) (Nat.le_refl _) (c_M_orderBy hn hR ho hk hh hnh hl hnl hW (by omega) (by omega) hko) (m_go ?_)
      show AW _ _ _ _ _ _ _ _ [.int (obR I ko B t k x)] _ _ _ _
      refine a_istore (lv' := [(7, .int (obR I ko B t k x)), (6, .int (nI k)), (5, .int s), (0, .ref 95), (1, .int am), (2, .int u), (3, .int (nI t)), (4, .int x)]) dM_findOrders_79 (by decide) rfl ?_
      refine a_iload_n 5 dM_findOrders_81 rfl rfl ?_
      refine a_if_eq (tgt := 95) dM_findOrders_82 (by decide) (fun c82 => ?_) (fun c82 => ?_)
      · refine a_iload 2 dM_findOrders_95 rfl ?_
        refine a_iload 0 dM_findOrders_97 rfl ?_
        refine a_callS (Q' := m_res (some (.int (f_gr s (obR I ko B t k x)))) (m_row I 110 B) J R) (as := [.int s, .int (obR I ko B t k x)]) (st := []) dM_findOrders_99 ml12_167 rfl (Nat.le_of_ble_eq_true rfl) (Nat.le_of_ble_eq_true rfl) rfl (Nat.le_refl _) (Nat.le_refl _) c_M_greater (m_go ?_)
        show AW _ _ _ _ _ _ _ _ [.int (f_gr s (obR I ko B t k x))] _ _ _ _
        refine a_istore (lv' := [(5, .int (f_gr s (obR I ko B t k x))), (7, .int (obR I ko B t k x)), (6, .int (nI k)), (0, .ref 95), (1, .int am), (2, .int u), (3, .int (nI t)), (4, .int x)]) dM_findOrders_102 (by decide) rfl ?_
        refine a_iincN (lv' := [(6, .int (nI (k + 1))), (5, .int (f_gr s (obR I ko B t k x))), (7, .int (obR I ko B t k x)), (0, .ref 95), (1, .int am), (2, .int u), (3, .int (nI t)), (4, .int x)]) (j := 2) dM_findOrders_104 rfl (by decide) rfl ?_
        refine a_goto (tgt := 52) dM_findOrders_107 (by decide) ?_
        have e' : foA I ko B t u x s0 (k + 1) = (f_gr s (obR I ko B t k x)) := by
          show foAS I ko B t u x k (foA I ko B t u x s0 k) = _
          rw [es]
          unfold foAS
          rw [if_neg c67, if_pos c82]
        refine a_locs (lv' := [(6, .int (nI (k + 1))), (5, .int (f_gr s (obR I ko B t k x))), (0, .ref 95), (1, .int am), (2, .int u), (3, .int (nI t)), (4, .int x)]) [0, 1, 3, 4, 5, 6, 7] rfl ?_
        exact ih (k + 1) (by omega) (f_gr s (obR I ko B t k x)) e'
      · refine a_iload 2 dM_findOrders_85 rfl ?_
        refine a_iload 0 dM_findOrders_87 rfl ?_
        refine a_callS (Q' := m_res (some (.int (f_le s (obR I ko B t k x)))) (m_row I 110 B) J R) (as := [.int s, .int (obR I ko B t k x)]) (st := []) dM_findOrders_89 ml12_355 rfl (Nat.le_of_ble_eq_true rfl) (Nat.le_of_ble_eq_true rfl) rfl (Nat.le_refl _) (Nat.le_refl _) c_M_lesser (m_go ?_)
        show AW _ _ _ _ _ _ _ _ [.int (f_le s (obR I ko B t k x))] _ _ _ _
        refine a_goto (tgt := 102) dM_findOrders_92 (by decide) ?_
        refine a_istore (lv' := [(5, .int (f_le s (obR I ko B t k x))), (7, .int (obR I ko B t k x)), (6, .int (nI k)), (0, .ref 95), (1, .int am), (2, .int u), (3, .int (nI t)), (4, .int x)]) dM_findOrders_102 (by decide) rfl ?_
        refine a_iincN (lv' := [(6, .int (nI (k + 1))), (5, .int (f_le s (obR I ko B t k x))), (7, .int (obR I ko B t k x)), (0, .ref 95), (1, .int am), (2, .int u), (3, .int (nI t)), (4, .int x)]) (j := 2) dM_findOrders_104 rfl (by decide) rfl ?_
        refine a_goto (tgt := 52) dM_findOrders_107 (by decide) ?_
        have e' : foA I ko B t u x s0 (k + 1) = (f_le s (obR I ko B t k x)) := by
          show foAS I ko B t u x k (foA I ko B t u x s0 k) = _
          rw [es]
          unfold foAS
          rw [if_neg c67, if_neg c82]
        refine a_locs (lv' := [(6, .int (nI (k + 1))), (5, .int (f_le s (obR I ko B t k x))), (0, .ref 95), (1, .int am), (2, .int u), (3, .int (nI t)), (4, .int x)]) [0, 1, 3, 4, 5, 6, 7] rfl ?_
        exact ih (k + 1) (by omega) (f_le s (obR I ko B t k x)) e'
/-- what a set's best begins with -/
def fo0 (t : Nat) (u : Int32) : Int32 := if t = 0 then nI 0 else if u = 0 then -1000000 else 1000000
def foV (I : mI) (ko nl : Nat) (B : Nat → Int32) (t : Nat) (u x : Int32) : Int32 := foA I ko B t u x (fo0 t u) nl
def fo1 (I : mI) (ko nl : Nat) (B : Nat → Int32) (t : Nat) (u : Int32) : Nat → Int32 := va_up B (5 * t) (foV I ko nl B t u (-1))
def fo2 (I : mI) (ko nl : Nat) (B : Nat → Int32) (t : Nat) (u : Int32) (a : Nat) : Nat → Int32 := va_up B (5 * t + 1 + a) (foV I ko nl B t u (nI a))
/-- all five of a set -/
def foS (I : mI) (ko nl : Nat) (B : Nat → Int32) (t : Nat) (u : Int32) : Nat → Int32 := fo2 I ko nl (fo2 I ko nl (fo2 I ko nl (fo2 I ko nl (fo1 I ko nl B t u) t u 0) t u 1) t u 2) t u 3
theorem kOK_n {a : Nat} (h : a < 4) : kOK (nI a) := Or.inr ⟨a, h, rfl⟩
theorem ahm (m : Nat) : nI (m + 1) + -1 = nI m := pk_m1 m
theorem fo_m {S : Nat × (Nat → Int32)} {d n : Nat} {I : mI} {J : mJ} {R : mR} {ko nh nl : Nat} (hn : 122 ≤ n) (hR : m_fin R) (ho : I 95 23 = nI ko) (hk : ko < 7) (hh : I 95 24 = nI nh) (hnh : nh ≤ 6) (hl : I 95 25 = nI nl) (hnl : nl ≤ 10) (hW : WFk I ko)  {B : Nat → Int32} {t : Nat} {am u : Int32}  (ht : t < 1024) (hs : (nI t &&& (am ^^^ -1)) = 0) {Q : Option Value → mI → mJ → mR → Prop} (hk9 : AW S (d + 6) YM_findOrders n n Q 12 [(4, .int (nI 0)), (0, .ref 95), (1, .int am), (2, .int u), (3, .int (nI t))] [] (m_row I 110 (fo1 I ko nl B t u)) J R n) : AW S (d + 6) YM_findOrders n n Q 12 [(4, .int (-1)), (0, .ref 95), (1, .int am), (2, .int u), (3, .int (nI t))] [] (m_row I 110 B) J R n := by
  refine a_iload 0 dM_findOrders_12 rfl ?_
  refine a_iconstN (a := 4) dM_findOrders_14 (by decide) ?_
  refine a_icmp_ge (tgt := 131) dM_findOrders_15 (by decide) (fun c => False.elim (absurd c (by decide))) (fun _ => ?_)
  refine a_iload_n 4 dM_findOrders_18 rfl rfl ?_
  refine a_iload_n 2 dM_findOrders_19 rfl rfl ?_
  refine a_iconst (v := -1) dM_findOrders_20 (by decide) ?_
  refine a_ixor dM_findOrders_21 ?_
  refine a_iand dM_findOrders_22 ?_
  refine a_if_ne (tgt := 131) dM_findOrders_23 (by decide) (fun c => False.elim (c hs)) (fun _ => ?_)
  refine a_iload_n 4 dM_findOrders_26 rfl rfl ?_
  refine a_if_ne (tgt := 34) dM_findOrders_27 (by decide) (fun c27 => ?_) (fun c27 => ?_)
  · refine a_iload_n 3 dM_findOrders_34 rfl rfl ?_
    refine a_if_eq (tgt := 44) dM_findOrders_35 (by decide) (fun c35 => ?_) (fun c35 => ?_)
    · refine a_ldcw (v := (-1000000)) dM_findOrders_44 cn12_350 ?_
      refine a_istore (lv' := [(5, .int (-1000000)), (4, .int (-1)), (0, .ref 95), (1, .int am), (2, .int u), (3, .int (nI t))]) dM_findOrders_47 (by decide) rfl ?_
      refine a_iconstN (a := 0) dM_findOrders_49 (by decide) ?_
      refine a_istore (lv' := [(6, .int (nI 0)), (5, .int (-1000000)), (4, .int (-1)), (0, .ref 95), (1, .int am), (2, .int u), (3, .int (nI t))]) dM_findOrders_50 (by decide) rfl ?_
      have e0 : fo0 t u = (-1000000) := by unfold fo0; rw [if_neg (show ¬ t = 0 from fun z => c27 (by rw [z]; rfl)), if_pos c35]
      refine a_locs (lv' := [(6, .int (nI 0)), (5, .int (-1000000)), (0, .ref 95), (1, .int am), (2, .int u), (3, .int (nI t)), (4, .int (-1))]) [0, 1, 3, 4, 5, 6, 2] rfl ?_
      refine l_foA (s0 := (-1000000)) hn hR ho hk hh hnh hl hnl hW (B := B) (t := t) (am := am) (u := u) (x := (-1)) ht kOK_m1 ?_ nl 0 (by omega) _ rfl
      refine a_aload_n 2 dM_findOrders_110 rfl rfl ?_
      refine a_geta (r := 110) dM_findOrders_111 fl12_53 rfl ly_95 (by omega) (rf_95_38 hR) ?_
      refine a_iconstN (a := 5) dM_findOrders_114 (by decide) ?_
      refine a_iload_n 5 dM_findOrders_115 rfl rfl ?_
      refine a_imulN (a := 5) (b := t) dM_findOrders_116 ?_
      refine a_iconstN (a := 1) dM_findOrders_117 (by decide) ?_
      refine a_iaddN (a := (5 * t)) (b := 1) dM_findOrders_118 ?_
      refine a_iload 6 dM_findOrders_119 rfl ?_
      refine a_iadd dM_findOrders_121 ?_
      rw [show ((nI ((5 * t) + 1)) + (-1)) = (nI (5 * t)) from (ahm _)]
      refine a_iload 1 dM_findOrders_122 rfl ?_
      refine a_iastN (a := (5 * t)) dM_findOrders_124 ly_110 (by omega) (by omega) (by decide) ?_
      rw [show m_up (m_row I 110 B) 110 (5 * t) (foA I ko B t u (-1) (-1000000) nl) = (m_row I 110 (va_up B (5 * t) (foA I ko B t u (-1) (-1000000) nl))) from (by rw [m_up_r])]
      refine a_iinc (v := (nI 0)) (lv' := [(4, .int (nI 0)), (6, .int (nI nl)), (5, .int (foA I ko B t u (-1) (-1000000) nl)), (0, .ref 95), (1, .int am), (2, .int u), (3, .int (nI t))]) 6 dM_findOrders_125 rfl (by decide) (by decide) rfl ?_
      refine a_goto (tgt := 12) dM_findOrders_128 (by decide) ?_
      have e1 : (fo1 I ko nl B t u) = (va_up B (5 * t) (foA I ko B t u (-1) (-1000000) nl)) := by unfold fo1 foV; rw [e0]
      refine a_locs (lv' := [(4, .int (nI 0)), (0, .ref 95), (1, .int am), (2, .int u), (3, .int (nI t))]) [0, 3, 4, 5, 6] rfl ?_
      rw [← e1]
      exact hk9
    · refine a_ldcw (v := 1000000) dM_findOrders_38 cn12_349 ?_
      refine a_goto (tgt := 47) dM_findOrders_41 (by decide) ?_
      refine a_istore (lv' := [(5, .int 1000000), (4, .int (-1)), (0, .ref 95), (1, .int am), (2, .int u), (3, .int (nI t))]) dM_findOrders_47 (by decide) rfl ?_
      refine a_iconstN (a := 0) dM_findOrders_49 (by decide) ?_
      refine a_istore (lv' := [(6, .int (nI 0)), (5, .int 1000000), (4, .int (-1)), (0, .ref 95), (1, .int am), (2, .int u), (3, .int (nI t))]) dM_findOrders_50 (by decide) rfl ?_
      have e0 : fo0 t u = 1000000 := by unfold fo0; rw [if_neg (show ¬ t = 0 from fun z => c27 (by rw [z]; rfl)), if_neg c35]
      refine a_locs (lv' := [(6, .int (nI 0)), (5, .int 1000000), (0, .ref 95), (1, .int am), (2, .int u), (3, .int (nI t)), (4, .int (-1))]) [0, 1, 3, 4, 5, 6, 2] rfl ?_
      refine l_foA (s0 := 1000000) hn hR ho hk hh hnh hl hnl hW (B := B) (t := t) (am := am) (u := u) (x := (-1)) ht kOK_m1 ?_ nl 0 (by omega) _ rfl
      refine a_aload_n 2 dM_findOrders_110 rfl rfl ?_
      refine a_geta (r := 110) dM_findOrders_111 fl12_53 rfl ly_95 (by omega) (rf_95_38 hR) ?_
      refine a_iconstN (a := 5) dM_findOrders_114 (by decide) ?_
      refine a_iload_n 5 dM_findOrders_115 rfl rfl ?_
      refine a_imulN (a := 5) (b := t) dM_findOrders_116 ?_
      refine a_iconstN (a := 1) dM_findOrders_117 (by decide) ?_
      refine a_iaddN (a := (5 * t)) (b := 1) dM_findOrders_118 ?_
      refine a_iload 6 dM_findOrders_119 rfl ?_
      refine a_iadd dM_findOrders_121 ?_
      rw [show ((nI ((5 * t) + 1)) + (-1)) = (nI (5 * t)) from (ahm _)]
      refine a_iload 1 dM_findOrders_122 rfl ?_
      refine a_iastN (a := (5 * t)) dM_findOrders_124 ly_110 (by omega) (by omega) (by decide) ?_
      rw [show m_up (m_row I 110 B) 110 (5 * t) (foA I ko B t u (-1) 1000000 nl) = (m_row I 110 (va_up B (5 * t) (foA I ko B t u (-1) 1000000 nl))) from (by rw [m_up_r])]
      refine a_iinc (v := (nI 0)) (lv' := [(4, .int (nI 0)), (6, .int (nI nl)), (5, .int (foA I ko B t u (-1) 1000000 nl)), (0, .ref 95), (1, .int am), (2, .int u), (3, .int (nI t))]) 6 dM_findOrders_125 rfl (by decide) (by decide) rfl ?_
      refine a_goto (tgt := 12) dM_findOrders_128 (by decide) ?_
      have e1 : (fo1 I ko nl B t u) = (va_up B (5 * t) (foA I ko B t u (-1) 1000000 nl)) := by unfold fo1 foV; rw [e0]
      refine a_locs (lv' := [(4, .int (nI 0)), (0, .ref 95), (1, .int am), (2, .int u), (3, .int (nI t))]) [0, 3, 4, 5, 6] rfl ?_
      rw [← e1]
      exact hk9
  · refine a_iconstN (a := 0) dM_findOrders_30 (by decide) ?_
    refine a_goto (tgt := 47) dM_findOrders_31 (by decide) ?_
    refine a_istore (lv' := [(5, .int (nI 0)), (4, .int (-1)), (0, .ref 95), (1, .int am), (2, .int u), (3, .int (nI t))]) dM_findOrders_47 (by decide) rfl ?_
    refine a_iconstN (a := 0) dM_findOrders_49 (by decide) ?_
    refine a_istore (lv' := [(6, .int (nI 0)), (5, .int (nI 0)), (4, .int (-1)), (0, .ref 95), (1, .int am), (2, .int u), (3, .int (nI t))]) dM_findOrders_50 (by decide) rfl ?_
    have e0 : fo0 t u = (nI 0) := by unfold fo0; rw [if_pos (show t = 0 from ((nI_eq (a := t) (b := 0) (by omega) (by decide)).mp c27))]
    refine a_locs (lv' := [(6, .int (nI 0)), (5, .int (nI 0)), (0, .ref 95), (1, .int am), (2, .int u), (3, .int (nI t)), (4, .int (-1))]) [0, 1, 3, 4, 5, 6, 2] rfl ?_
    refine l_foA (s0 := (nI 0)) hn hR ho hk hh hnh hl hnl hW (B := B) (t := t) (am := am) (u := u) (x := (-1)) ht kOK_m1 ?_ nl 0 (by omega) _ rfl
    refine a_aload_n 2 dM_findOrders_110 rfl rfl ?_
    refine a_geta (r := 110) dM_findOrders_111 fl12_53 rfl ly_95 (by omega) (rf_95_38 hR) ?_
    refine a_iconstN (a := 5) dM_findOrders_114 (by decide) ?_
    refine a_iload_n 5 dM_findOrders_115 rfl rfl ?_
    refine a_imulN (a := 5) (b := t) dM_findOrders_116 ?_
    refine a_iconstN (a := 1) dM_findOrders_117 (by decide) ?_
    refine a_iaddN (a := (5 * t)) (b := 1) dM_findOrders_118 ?_
    refine a_iload 6 dM_findOrders_119 rfl ?_
    refine a_iadd dM_findOrders_121 ?_
    rw [show ((nI ((5 * t) + 1)) + (-1)) = (nI (5 * t)) from (ahm _)]
    refine a_iload 1 dM_findOrders_122 rfl ?_
    refine a_iastN (a := (5 * t)) dM_findOrders_124 ly_110 (by omega) (by omega) (by decide) ?_
    rw [show m_up (m_row I 110 B) 110 (5 * t) (foA I ko B t u (-1) (nI 0) nl) = (m_row I 110 (va_up B (5 * t) (foA I ko B t u (-1) (nI 0) nl))) from (by rw [m_up_r])]
    refine a_iinc (v := (nI 0)) (lv' := [(4, .int (nI 0)), (6, .int (nI nl)), (5, .int (foA I ko B t u (-1) (nI 0) nl)), (0, .ref 95), (1, .int am), (2, .int u), (3, .int (nI t))]) 6 dM_findOrders_125 rfl (by decide) (by decide) rfl ?_
    refine a_goto (tgt := 12) dM_findOrders_128 (by decide) ?_
    have e1 : (fo1 I ko nl B t u) = (va_up B (5 * t) (foA I ko B t u (-1) (nI 0) nl)) := by unfold fo1 foV; rw [e0]
    refine a_locs (lv' := [(4, .int (nI 0)), (0, .ref 95), (1, .int am), (2, .int u), (3, .int (nI t))]) [0, 3, 4, 5, 6] rfl ?_
    rw [← e1]
    exact hk9
theorem fo_n {S : Nat × (Nat → Int32)} {d n : Nat} {I : mI} {J : mJ} {R : mR} {ko nh nl : Nat} (hn : 122 ≤ n) (hR : m_fin R) (ho : I 95 23 = nI ko) (hk : ko < 7) (hh : I 95 24 = nI nh) (hnh : nh ≤ 6) (hl : I 95 25 = nI nl) (hnl : nl ≤ 10) (hW : WFk I ko)  {B : Nat → Int32} {t : Nat} {am u : Int32} {a : Nat} (ha : a < 4) (ht : t < 1024) (hs : (nI t &&& (am ^^^ -1)) = 0) {Q : Option Value → mI → mJ → mR → Prop} (hk9 : AW S (d + 6) YM_findOrders n n Q 12 [(4, .int (nI (a + 1))), (0, .ref 95), (1, .int am), (2, .int u), (3, .int (nI t))] [] (m_row I 110 (fo2 I ko nl B t u a)) J R n) : AW S (d + 6) YM_findOrders n n Q 12 [(4, .int (nI a)), (0, .ref 95), (1, .int am), (2, .int u), (3, .int (nI t))] [] (m_row I 110 B) J R n := by
  refine a_iload 0 dM_findOrders_12 rfl ?_
  refine a_iconstN (a := 4) dM_findOrders_14 (by decide) ?_
  refine a_icmp_geN (tgt := 131) dM_findOrders_15 (by decide) (by omega) (by omega) (fun c => False.elim (by omega)) (fun _ => ?_)
  refine a_iload_n 4 dM_findOrders_18 rfl rfl ?_
  refine a_iload_n 2 dM_findOrders_19 rfl rfl ?_
  refine a_iconst (v := -1) dM_findOrders_20 (by decide) ?_
  refine a_ixor dM_findOrders_21 ?_
  refine a_iand dM_findOrders_22 ?_
  refine a_if_ne (tgt := 131) dM_findOrders_23 (by decide) (fun c => False.elim (c hs)) (fun _ => ?_)
  refine a_iload_n 4 dM_findOrders_26 rfl rfl ?_
  refine a_if_ne (tgt := 34) dM_findOrders_27 (by decide) (fun c27 => ?_) (fun c27 => ?_)
  · refine a_iload_n 3 dM_findOrders_34 rfl rfl ?_
    refine a_if_eq (tgt := 44) dM_findOrders_35 (by decide) (fun c35 => ?_) (fun c35 => ?_)
    · refine a_ldcw (v := (-1000000)) dM_findOrders_44 cn12_350 ?_
      refine a_istore (lv' := [(5, .int (-1000000)), (4, .int (nI a)), (0, .ref 95), (1, .int am), (2, .int u), (3, .int (nI t))]) dM_findOrders_47 (by decide) rfl ?_
      refine a_iconstN (a := 0) dM_findOrders_49 (by decide) ?_
      refine a_istore (lv' := [(6, .int (nI 0)), (5, .int (-1000000)), (4, .int (nI a)), (0, .ref 95), (1, .int am), (2, .int u), (3, .int (nI t))]) dM_findOrders_50 (by decide) rfl ?_
      have e0 : fo0 t u = (-1000000) := by unfold fo0; rw [if_neg (show ¬ t = 0 from fun z => c27 (by rw [z]; rfl)), if_pos c35]
      refine a_locs (lv' := [(6, .int (nI 0)), (5, .int (-1000000)), (0, .ref 95), (1, .int am), (2, .int u), (3, .int (nI t)), (4, .int (nI a))]) [0, 1, 3, 4, 5, 6, 2] rfl ?_
      refine l_foA (s0 := (-1000000)) hn hR ho hk hh hnh hl hnl hW (B := B) (t := t) (am := am) (u := u) (x := (nI a)) ht (kOK_n ha) ?_ nl 0 (by omega) _ rfl
      refine a_aload_n 2 dM_findOrders_110 rfl rfl ?_
      refine a_geta (r := 110) dM_findOrders_111 fl12_53 rfl ly_95 (by omega) (rf_95_38 hR) ?_
      refine a_iconstN (a := 5) dM_findOrders_114 (by decide) ?_
      refine a_iload_n 5 dM_findOrders_115 rfl rfl ?_
      refine a_imulN (a := 5) (b := t) dM_findOrders_116 ?_
      refine a_iconstN (a := 1) dM_findOrders_117 (by decide) ?_
      refine a_iaddN (a := (5 * t)) (b := 1) dM_findOrders_118 ?_
      refine a_iload 6 dM_findOrders_119 rfl ?_
      refine a_iaddN (a := ((5 * t) + 1)) (b := a) dM_findOrders_121 ?_
      refine a_iload 1 dM_findOrders_122 rfl ?_
      refine a_iastN (a := (((5 * t) + 1) + a)) dM_findOrders_124 ly_110 (by omega) (by omega) (by decide) ?_
      rw [show m_up (m_row I 110 B) 110 (((5 * t) + 1) + a) (foA I ko B t u (nI a) (-1000000) nl) = (m_row I 110 (va_up B (((5 * t) + 1) + a) (foA I ko B t u (nI a) (-1000000) nl))) from (by rw [m_up_r])]
      refine a_iincN (lv' := [(4, .int (nI (a + 1))), (6, .int (nI nl)), (5, .int (foA I ko B t u (nI a) (-1000000) nl)), (0, .ref 95), (1, .int am), (2, .int u), (3, .int (nI t))]) (j := 6) dM_findOrders_125 rfl (by decide) rfl ?_
      refine a_goto (tgt := 12) dM_findOrders_128 (by decide) ?_
      have e1 : (fo2 I ko nl B t u a) = (va_up B (((5 * t) + 1) + a) (foA I ko B t u (nI a) (-1000000) nl)) := by unfold fo2 foV; rw [e0]
      refine a_locs (lv' := [(4, .int (nI (a + 1))), (0, .ref 95), (1, .int am), (2, .int u), (3, .int (nI t))]) [0, 3, 4, 5, 6] rfl ?_
      rw [← e1]
      exact hk9
    · refine a_ldcw (v := 1000000) dM_findOrders_38 cn12_349 ?_
      refine a_goto (tgt := 47) dM_findOrders_41 (by decide) ?_
      refine a_istore (lv' := [(5, .int 1000000), (4, .int (nI a)), (0, .ref 95), (1, .int am), (2, .int u), (3, .int (nI t))]) dM_findOrders_47 (by decide) rfl ?_
      refine a_iconstN (a := 0) dM_findOrders_49 (by decide) ?_
      refine a_istore (lv' := [(6, .int (nI 0)), (5, .int 1000000), (4, .int (nI a)), (0, .ref 95), (1, .int am), (2, .int u), (3, .int (nI t))]) dM_findOrders_50 (by decide) rfl ?_
      have e0 : fo0 t u = 1000000 := by unfold fo0; rw [if_neg (show ¬ t = 0 from fun z => c27 (by rw [z]; rfl)), if_neg c35]
      refine a_locs (lv' := [(6, .int (nI 0)), (5, .int 1000000), (0, .ref 95), (1, .int am), (2, .int u), (3, .int (nI t)), (4, .int (nI a))]) [0, 1, 3, 4, 5, 6, 2] rfl ?_
      refine l_foA (s0 := 1000000) hn hR ho hk hh hnh hl hnl hW (B := B) (t := t) (am := am) (u := u) (x := (nI a)) ht (kOK_n ha) ?_ nl 0 (by omega) _ rfl
      refine a_aload_n 2 dM_findOrders_110 rfl rfl ?_
      refine a_geta (r := 110) dM_findOrders_111 fl12_53 rfl ly_95 (by omega) (rf_95_38 hR) ?_
      refine a_iconstN (a := 5) dM_findOrders_114 (by decide) ?_
      refine a_iload_n 5 dM_findOrders_115 rfl rfl ?_
      refine a_imulN (a := 5) (b := t) dM_findOrders_116 ?_
      refine a_iconstN (a := 1) dM_findOrders_117 (by decide) ?_
      refine a_iaddN (a := (5 * t)) (b := 1) dM_findOrders_118 ?_
      refine a_iload 6 dM_findOrders_119 rfl ?_
      refine a_iaddN (a := ((5 * t) + 1)) (b := a) dM_findOrders_121 ?_
      refine a_iload 1 dM_findOrders_122 rfl ?_
      refine a_iastN (a := (((5 * t) + 1) + a)) dM_findOrders_124 ly_110 (by omega) (by omega) (by decide) ?_
      rw [show m_up (m_row I 110 B) 110 (((5 * t) + 1) + a) (foA I ko B t u (nI a) 1000000 nl) = (m_row I 110 (va_up B (((5 * t) + 1) + a) (foA I ko B t u (nI a) 1000000 nl))) from (by rw [m_up_r])]
      refine a_iincN (lv' := [(4, .int (nI (a + 1))), (6, .int (nI nl)), (5, .int (foA I ko B t u (nI a) 1000000 nl)), (0, .ref 95), (1, .int am), (2, .int u), (3, .int (nI t))]) (j := 6) dM_findOrders_125 rfl (by decide) rfl ?_
      refine a_goto (tgt := 12) dM_findOrders_128 (by decide) ?_
      have e1 : (fo2 I ko nl B t u a) = (va_up B (((5 * t) + 1) + a) (foA I ko B t u (nI a) 1000000 nl)) := by unfold fo2 foV; rw [e0]
      refine a_locs (lv' := [(4, .int (nI (a + 1))), (0, .ref 95), (1, .int am), (2, .int u), (3, .int (nI t))]) [0, 3, 4, 5, 6] rfl ?_
      rw [← e1]
      exact hk9
  · refine a_iconstN (a := 0) dM_findOrders_30 (by decide) ?_
    refine a_goto (tgt := 47) dM_findOrders_31 (by decide) ?_
    refine a_istore (lv' := [(5, .int (nI 0)), (4, .int (nI a)), (0, .ref 95), (1, .int am), (2, .int u), (3, .int (nI t))]) dM_findOrders_47 (by decide) rfl ?_
    refine a_iconstN (a := 0) dM_findOrders_49 (by decide) ?_
    refine a_istore (lv' := [(6, .int (nI 0)), (5, .int (nI 0)), (4, .int (nI a)), (0, .ref 95), (1, .int am), (2, .int u), (3, .int (nI t))]) dM_findOrders_50 (by decide) rfl ?_
    have e0 : fo0 t u = (nI 0) := by unfold fo0; rw [if_pos (show t = 0 from ((nI_eq (a := t) (b := 0) (by omega) (by decide)).mp c27))]
    refine a_locs (lv' := [(6, .int (nI 0)), (5, .int (nI 0)), (0, .ref 95), (1, .int am), (2, .int u), (3, .int (nI t)), (4, .int (nI a))]) [0, 1, 3, 4, 5, 6, 2] rfl ?_
    refine l_foA (s0 := (nI 0)) hn hR ho hk hh hnh hl hnl hW (B := B) (t := t) (am := am) (u := u) (x := (nI a)) ht (kOK_n ha) ?_ nl 0 (by omega) _ rfl
    refine a_aload_n 2 dM_findOrders_110 rfl rfl ?_
    refine a_geta (r := 110) dM_findOrders_111 fl12_53 rfl ly_95 (by omega) (rf_95_38 hR) ?_
    refine a_iconstN (a := 5) dM_findOrders_114 (by decide) ?_
    refine a_iload_n 5 dM_findOrders_115 rfl rfl ?_
    refine a_imulN (a := 5) (b := t) dM_findOrders_116 ?_
    refine a_iconstN (a := 1) dM_findOrders_117 (by decide) ?_
    refine a_iaddN (a := (5 * t)) (b := 1) dM_findOrders_118 ?_
    refine a_iload 6 dM_findOrders_119 rfl ?_
    refine a_iaddN (a := ((5 * t) + 1)) (b := a) dM_findOrders_121 ?_
    refine a_iload 1 dM_findOrders_122 rfl ?_
    refine a_iastN (a := (((5 * t) + 1) + a)) dM_findOrders_124 ly_110 (by omega) (by omega) (by decide) ?_
    rw [show m_up (m_row I 110 B) 110 (((5 * t) + 1) + a) (foA I ko B t u (nI a) (nI 0) nl) = (m_row I 110 (va_up B (((5 * t) + 1) + a) (foA I ko B t u (nI a) (nI 0) nl))) from (by rw [m_up_r])]
    refine a_iincN (lv' := [(4, .int (nI (a + 1))), (6, .int (nI nl)), (5, .int (foA I ko B t u (nI a) (nI 0) nl)), (0, .ref 95), (1, .int am), (2, .int u), (3, .int (nI t))]) (j := 6) dM_findOrders_125 rfl (by decide) rfl ?_
    refine a_goto (tgt := 12) dM_findOrders_128 (by decide) ?_
    have e1 : (fo2 I ko nl B t u a) = (va_up B (((5 * t) + 1) + a) (foA I ko B t u (nI a) (nI 0) nl)) := by unfold fo2 foV; rw [e0]
    refine a_locs (lv' := [(4, .int (nI (a + 1))), (0, .ref 95), (1, .int am), (2, .int u), (3, .int (nI t))]) [0, 3, 4, 5, 6] rfl ?_
    rw [← e1]
    exact hk9
def foN (I : mI) (ko nl : Nat) (am u : Int32) (B : Nat → Int32) : Nat → Nat → Int32
  | 0 => B
  | k + 1 => if (nI k &&& (am ^^^ -1)) = 0 then foS I ko nl (foN I ko nl am u B k) k u else foN I ko nl am u B k
theorem l_foN {S : Nat × (Nat → Int32)} {d n : Nat} {I : mI} {J : mJ} {R : mR} {ko nh nl : Nat} (hn : 122 ≤ n) (hR : m_fin R) (ho : I 95 23 = nI ko) (hk : ko < 7) (hh : I 95 24 = nI nh) (hnh : nh ≤ 6) (hl : I 95 25 = nI nl) (hnl : nl ≤ 10) (hW : WFk I ko) {am u : Int32} {B : Nat → Int32}   {Q : Option Value → mI → mJ → mR → Prop}  (hx : AW S (d + 6) YM_findOrders n n Q 137 [(3, .int (nI 1024)), (0, .ref 95), (1, .int am), (2, .int u)] [] (m_row I 110 (foN I ko nl am u B 1024)) J R n) : ∀ m k, k + m = 1024 → ∀ s : (Nat → Int32), foN I ko nl am u B k = s → AW S (d + 6) YM_findOrders n n Q 2 [(3, .int (nI k)), (0, .ref 95), (1, .int am), (2, .int u)] [] (m_row I 110 s) J R n := by
  intro m
  induction m with
  | zero =>
    intro k hk9 s es
    rw [show k = 1024 by omega] at es ⊢
    subst es
    refine a_iload_n 0 dM_findOrders_2 rfl rfl ?_
    refine a_sipushN (a := 1024) dM_findOrders_3 (by decide) ?_
    refine a_icmp_geN (tgt := 137) dM_findOrders_6 (by decide) (by omega) (by omega) (fun _ => ?_) (fun c => False.elim (by omega))
    exact hx
  | succ m ih =>
    intro k hk9 s es
    refine a_iload_n 0 dM_findOrders_2 rfl rfl ?_
    refine a_sipushN (a := 1024) dM_findOrders_3 (by decide) ?_
    refine a_icmp_geN (tgt := 137) dM_findOrders_6 (by decide) (by omega) (by omega) (fun c => False.elim (by omega)) (fun _ => ?_)
    refine a_iconst (v := -1) dM_findOrders_9 (by decide) ?_
    refine a_istore (lv' := [(4, .int (-1)), (3, .int (nI k)), (0, .ref 95), (1, .int am), (2, .int u)]) dM_findOrders_10 (by decide) rfl ?_
    by_cases hs : (nI k &&& (am ^^^ -1)) = 0
    · refine a_locs (lv' := [(4, .int (-1)), (0, .ref 95), (1, .int am), (2, .int u), (3, .int (nI k))]) [0, 2, 3, 4, 1] rfl ?_
      refine fo_m hn hR ho hk hh hnh hl hnl hW (by omega) hs ?_
      refine fo_n hn hR ho hk hh hnh hl hnl hW (a := 0) (by decide) (by omega) hs ?_
      refine fo_n hn hR ho hk hh hnh hl hnl hW (a := 1) (by decide) (by omega) hs ?_
      refine fo_n hn hR ho hk hh hnh hl hnl hW (a := 2) (by decide) (by omega) hs ?_
      refine fo_n hn hR ho hk hh hnh hl hnl hW (a := 3) (by decide) (by omega) hs ?_
      show AW _ _ _ _ _ _ _ [(4, .int (nI 4)), (0, .ref 95), (1, .int am), (2, .int u), (3, .int (nI k))] _ (m_row I 110 (foS I ko nl s k u)) _ _ _
      refine a_iload 0 dM_findOrders_12 rfl ?_
      refine a_iconstN (a := 4) dM_findOrders_14 (by decide) ?_
      refine a_icmp_geN (tgt := 131) dM_findOrders_15 (by decide) (by omega) (by omega) (fun _ => ?_) (fun c => False.elim (by omega))
      refine a_iincN (lv' := [(3, .int (nI (k + 1))), (4, .int (nI 4)), (0, .ref 95), (1, .int am), (2, .int u)]) (j := 4) dM_findOrders_131 rfl (by decide) rfl ?_
      refine a_goto (tgt := 2) dM_findOrders_134 (by decide) ?_
      have e' : foN I ko nl am u B (k + 1) = (foS I ko nl s k u) := by
        unfold foN
        rw [es]
        rw [if_pos hs]
      refine a_locs (lv' := [(3, .int (nI (k + 1))), (0, .ref 95), (1, .int am), (2, .int u)]) [0, 2, 3, 4] rfl ?_
      exact ih (k + 1) (by omega) (foS I ko nl s k u) e'
    · refine a_iload 0 dM_findOrders_12 rfl ?_
      refine a_iconstN (a := 4) dM_findOrders_14 (by decide) ?_
      refine a_icmp_ge (tgt := 131) dM_findOrders_15 (by decide) (fun c => False.elim (absurd c (by decide))) (fun _ => ?_)
      refine a_iload_n 1 dM_findOrders_18 rfl rfl ?_
      refine a_iload_n 3 dM_findOrders_19 rfl rfl ?_
      refine a_iconst (v := -1) dM_findOrders_20 (by decide) ?_
      refine a_ixor dM_findOrders_21 ?_
      refine a_iand dM_findOrders_22 ?_
      refine a_if_ne (tgt := 131) dM_findOrders_23 (by decide) (fun _ => ?_) (fun c => False.elim (hs c))
      refine a_iincN (lv' := [(3, .int (nI (k + 1))), (4, .int (-1)), (0, .ref 95), (1, .int am), (2, .int u)]) (j := 1) dM_findOrders_131 rfl (by decide) rfl ?_
      refine a_goto (tgt := 2) dM_findOrders_134 (by decide) ?_
      have e' : foN I ko nl am u B (k + 1) = s := by
        unfold foN
        rw [es]
        rw [if_neg hs]
      refine a_locs (lv' := [(3, .int (nI (k + 1))), (0, .ref 95), (1, .int am), (2, .int u)]) [0, 2, 3, 4] rfl ?_
      exact ih (k + 1) (by omega) s e'
theorem c_M_findOrders {S : Nat × (Nat → Int32)} {d n : Nat} {I : mI} {J : mJ} {R : mR} {ko nh nl : Nat} (hn : 122 ≤ n) (hR : m_fin R) (ho : I 95 23 = nI ko) (hk : ko < 7) (hh : I 95 24 = nI nh) (hnh : nh ≤ 6) (hl : I 95 25 = nI nl) (hnl : nl ≤ 10) (hW : WFk I ko) {am u : Int32} {B : Nat → Int32} : RUN S (d + 6) YM_findOrders [.ref 95, .int am, .int u] (m_row I 110 B) J R n none (m_row I 110 (foN I ko nl am u B 1024)) J R n := by
  show AW S _ YM_findOrders n n _ 0 [(0, .ref 95), (1, .int am), (2, .int u)] [] (m_row I 110 B) J R n
  refine a_iconstN (a := 0) dM_findOrders_0 (by decide) ?_
  refine a_istore_n (lv' := [(3, .int (nI 0)), (0, .ref 95), (1, .int am), (2, .int u)]) dM_findOrders_1 rfl (by decide) rfl ?_
  refine l_foN  hn hR ho hk hh hnh hl hnl hW ?_ 1024 0 (by omega) _ rfl
  exact a_vret dM_findOrders_137 rfl ⟨rfl, rfl, rfl, rfl⟩
/-- best or worst of a house, of these letters -/
def boR (I : mI) (ko nl h : Nat) (t : Nat) (u : Int32) (B : Nat → Int32) : Int32 := oR I ko (3 + h) + foN I ko nl (nI t) u B 1024 (5 * t)
theorem c_M_bestOf {S : Nat × (Nat → Int32)} {d n : Nat} {I : mI} {J : mJ} {R : mR} {ko nh nl : Nat} (hn : 122 ≤ n) (hR : m_fin R) (ho : I 95 23 = nI ko) (hk : ko < 7) (hh : I 95 24 = nI nh) (hnh : nh ≤ 6) (hl : I 95 25 = nI nl) (hnl : nl ≤ 10) (hW : WFk I ko) {h t : Nat} (hh6 : h < 6) (ht : t < 1024) {u : Int32} {B : Nat → Int32} : RUN S (d + 7) YM_bestOf [.ref 95, .int (nI h), .int (nI t), .int u] (m_row I 110 B) J R n (some (.int (boR I ko nl h t u B))) (m_row I 110 (foN I ko nl (nI t) u B 1024)) J R n := by
  show AW S _ YM_bestOf n n _ 0 [(0, .ref 95), (1, .int (nI h)), (2, .int (nI t)), (3, .int u)] [] (m_row I 110 B) J R n
  refine a_aload_n 0 dM_bestOf_0 rfl rfl ?_
  refine a_iload_n 2 dM_bestOf_1 rfl rfl ?_
  refine a_iload_n 3 dM_bestOf_2 rfl rfl ?_
  refine a_callV (Q' := m_res none (m_row I 110 (foN I ko nl (nI t) u B 1024)) J R) (as := [.int (nI t), .int u]) (st := []) dM_bestOf_3 ml12_358 rfl (Nat.le_of_ble_eq_true rfl) ly_95 rfl rfl (by decide) (by omega) (Nat.le_of_ble_eq_true rfl) rfl (Nat.le_refl _) (Nat.le_refl _) (c_M_findOrders hn hR ho hk hh hnh hl hnl hW) (m_go ?_)
  show AW _ _ _ _ _ _ _ _ [] _ _ _ _
  refine a_aload_n 0 dM_bestOf_6 rfl rfl ?_
  refine a_iconstN (a := 3) dM_bestOf_7 (by decide) ?_
  refine a_iload_n 1 dM_bestOf_8 rfl rfl ?_
  refine a_iaddN (a := 3) (b := h) dM_bestOf_9 ?_
  refine a_callV (Q' := m_res (some (.int (oR I ko (3 + h)))) (m_row I 110 (foN I ko nl (nI t) u B 1024)) J R) (as := [.int (nI (3 + h))]) (st := []) dM_bestOf_10 ml12_255 rfl (Nat.le_of_ble_eq_true rfl) ly_95 rfl rfl (by decide) (by omega) (Nat.le_of_ble_eq_true rfl) rfl (Nat.le_refl _) (Nat.le_refl _) (c_M_of hn hR (show (m_row I 110 (foN I ko nl (nI t) u B 1024)) 95 23 = nI ko from ho) (by omega)) (m_go ?_)
  show AW _ _ _ _ _ _ _ _ [.int (oR I ko (3 + h))] _ _ _ _
  refine a_aload_n 0 dM_bestOf_13 rfl rfl ?_
  refine a_geta (r := 110) dM_bestOf_14 fl12_53 rfl ly_95 (by omega) (rf_95_38 hR) ?_
  refine a_iconstN (a := 5) dM_bestOf_17 (by decide) ?_
  refine a_iload_n 2 dM_bestOf_18 rfl rfl ?_
  refine a_imulN (a := 5) (b := t) dM_bestOf_19 ?_
  refine a_ialdN (a := (5 * t)) dM_bestOf_20 ly_110 (by omega) (by omega) (by decide) ?_
  rw [show (m_row I 110 (foN I ko nl (nI t) u B 1024)) 110 (5 * t) = (foN I ko nl (nI t) u B 1024) (5 * t) from rfl]
  refine a_iadd dM_bestOf_21 ?_
  exact a_iret dM_bestOf_22 rfl ⟨rfl, rfl, rfl, rfl⟩
abbrev ltH (I : mI) (h nl : Nat) : Nat := ltN (I 106) (nI h) nl
def baR (I : mI) (ko nl h : Nat) (B : Nat → Int32) : Int32 := boR I ko nl h (ltH I h nl) 0 B
abbrev baB (I : mI) (ko nl h : Nat) (B : Nat → Int32) : Nat → Int32 := foN I ko nl (nI (ltH I h nl)) 0 B 1024
theorem c_M_lettersN {S : Nat × (Nat → Int32)} {d n : Nat} {I : mI} {J : mJ} {R : mR} {nl : Nat} {h : Int32} (hn : 122 ≤ n) (hR : m_fin R) (hl : I 95 25 = nI nl) (hnl : nl ≤ 10) : RUN S d YM_lettersOf [.ref 95, .int h] I J R n (some (.int (nI (ltN (I 106) h nl)))) I J R n := by
  have h := c_M_lettersOf (S := S) (d := d) (n := n) (J := J) (R := R) (I := I) (h := h) hn hR hl hnl
  rw [lt_nI] at h
  exact h
theorem c_M_bestAll {S : Nat × (Nat → Int32)} {d n : Nat} {I : mI} {J : mJ} {R : mR} {ko nh nl : Nat} (hn : 122 ≤ n) (hR : m_fin R) (ho : I 95 23 = nI ko) (hk : ko < 7) (hh : I 95 24 = nI nh) (hnh : nh ≤ 6) (hl : I 95 25 = nI nl) (hnl : nl ≤ 10) (hW : WFk I ko) {h : Nat} (hh6 : h < 6) {B : Nat → Int32} : RUN S (d + 8) YM_bestAll [.ref 95, .int (nI h)] (m_row I 110 B) J R n (some (.int (baR I ko nl h B))) (m_row I 110 (baB I ko nl h B)) J R n := by
  show AW S _ YM_bestAll n n _ 0 [(0, .ref 95), (1, .int (nI h))] [] (m_row I 110 B) J R n
  refine a_aload_n 0 dM_bestAll_0 rfl rfl ?_
  refine a_iload_n 1 dM_bestAll_1 rfl rfl ?_
  refine a_aload_n 0 dM_bestAll_2 rfl rfl ?_
  refine a_iload_n 1 dM_bestAll_3 rfl rfl ?_
  refine a_callV (Q' := m_res (some (.int (nI (ltN (I 106) (nI h) nl)))) (m_row I 110 B) J R) (as := [.int (nI h)]) (st := [.int (nI h), .ref 95]) dM_bestAll_4 ml12_362 rfl (Nat.le_of_ble_eq_true rfl) ly_95 rfl rfl (by decide) (by omega) (Nat.le_of_ble_eq_true rfl) rfl (Nat.le_refl _) (Nat.le_refl _) (c_M_lettersN (I := (m_row I 110 B)) hn hR hl hnl) (m_go ?_)
  show AW _ _ _ _ _ _ _ _ [.int (nI (ltN (I 106) (nI h) nl)), .int (nI h), .ref 95] _ _ _ _
  refine a_iconstN (a := 0) dM_bestAll_7 (by decide) ?_
  refine a_callV (Q' := m_res (some (.int (boR I ko nl h (ltN (I 106) (nI h) nl) 0 B))) (m_row I 110 (foN I ko nl (nI (ltN (I 106) (nI h) nl)) 0 B 1024)) J R) (as := [.int (nI h), .int (nI (ltN (I 106) (nI h) nl)), .int (nI 0)]) (st := []) dM_bestAll_8 ml12_365 rfl (Nat.le_of_ble_eq_true rfl) ly_95 rfl rfl (by decide) (by omega) (Nat.le_of_ble_eq_true rfl) rfl (Nat.le_refl _) (Nat.le_refl _) (c_M_bestOf hn hR ho hk hh hnh hl hnl hW (by omega) (lt_lt hnl)) (m_go ?_)
  show AW _ _ _ _ _ _ _ _ [.int (boR I ko nl h (ltN (I 106) (nI h) nl) 0 B)] _ _ _ _
  exact a_iret dM_bestAll_11 rfl ⟨rfl, rfl, rfl, rfl⟩
theorem obR_eq {I I' : mI} {ko : Nat} (h1 : dsR I' ko = dsR I ko) (h2 : oR I' ko = oR I ko) : obR I' ko = obR I ko := by
  funext B t l x
  unfold obR kdN
  rw [h1, h2]
theorem foA_eq {I I' : mI} {ko : Nat} (h1 : dsR I' ko = dsR I ko) (h2 : oR I' ko = oR I ko) {B : Nat → Int32} {t : Nat} {u x s0 : Int32} : ∀ k, foA I' ko B t u x s0 k = foA I ko B t u x s0 k := by
  intro k
  induction k with
  | zero => rfl
  | succ k ih =>
    show foAS I' ko B t u x k (foA I' ko B t u x s0 k) = foAS I ko B t u x k (foA I ko B t u x s0 k)
    rw [ih]
    unfold foAS
    rw [obR_eq h1 h2]
theorem foS_eq {I I' : mI} {ko nl : Nat} (h1 : dsR I' ko = dsR I ko) (h2 : oR I' ko = oR I ko) {B : Nat → Int32} {t : Nat} {u : Int32} : foS I' ko nl B t u = foS I ko nl B t u := by
  have e : ∀ (B : Nat → Int32) (x : Int32), foV I' ko nl B t u x = foV I ko nl B t u x := fun B x => by unfold foV; exact foA_eq h1 h2 nl
  unfold foS fo2 fo1
  simp only [e]
theorem foN_eq {I I' : mI} {ko nl : Nat} (h1 : dsR I' ko = dsR I ko) (h2 : oR I' ko = oR I ko) {am u : Int32} {B : Nat → Int32} : ∀ k, foN I' ko nl am u B k = foN I ko nl am u B k := by
  intro k
  induction k with
  | zero => rfl
  | succ k ih =>
    unfold foN
    rw [ih, foS_eq h1 h2]
theorem boR_eq {I I' : mI} {ko nl : Nat} (h1 : dsR I' ko = dsR I ko) (h2 : oR I' ko = oR I ko) {h t : Nat} {u : Int32} {B : Nat → Int32} : boR I' ko nl h t u B = boR I ko nl h t u B := by
  unfold boR
  rw [foN_eq h1 h2 1024, h2]
theorem baR_eq {I I' : mI} {ko nl : Nat} (h1 : dsR I' ko = dsR I ko) (h2 : oR I' ko = oR I ko) (h3 : I' 106 = I 106) {h : Nat} {B : Nat → Int32} : baR I' ko nl h B = baR I ko nl h B := by
  unfold baR ltH
  rw [boR_eq h1 h2, h3]
theorem baB_eq {I I' : mI} {ko nl : Nat} (h1 : dsR I' ko = dsR I ko) (h2 : oR I' ko = oR I ko) (h3 : I' 106 = I 106) {h : Nat} {B : Nat → Int32} : baB I' ko nl h B = baB I ko nl h B := by
  unfold baB ltH
  rw [foN_eq h1 h2 1024, h3]

