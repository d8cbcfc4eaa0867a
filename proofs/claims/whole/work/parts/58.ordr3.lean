/-- the first letter (by numbers) that does best, among the first a -/
def whN (I : mI) (ko : Nat) (B : Nat → Int32) (t : Nat) (x v : Int32) : Nat → Int32 → Int32
  | 0, w => w
  | a + 1, w => whN I ko B t x v a (if f_has (nI t) (nI a) = 0 then w else if obR I ko B t a x = v then nI a else w)
def ahd (a : Nat) : Int32 := nI a - 1
theorem ahd_s (a : Nat) : ahd (a + 1) = nI a := by
  unfold ahd
  rw [show (1 : Int32) = nI 1 from rfl, pk_sub (by omega)]
  rfl
theorem ahd_m (a : Nat) : nI a + (-1) = ahd a := by
  unfold ahd
  rw [Int32.sub_eq_add_neg]
theorem ahd_lt {a : Nat} (h : 0 < a) (h2 : a < 2 ^ 31) : ¬ ahd a < 0 := by
  obtain ⟨b, rfl⟩ : ∃ b, a = b + 1 := ⟨a - 1, by omega⟩
  rw [ahd_s]
  exact nI_pos (by omega)
theorem ahd_0 : ahd 0 < 0 := by decide
/-- where the best of a set stands -/
def bxN (t : Nat) (x : Int32) : Nat := (nI (5 * t + 1) + x).toNatClampNeg
theorem bx_m (t : Nat) (h : t < 1024) : nI (5 * t + 1) + (-1) = nI (bxN t (-1)) ∧ bxN t (-1) = 5 * t := by
  unfold bxN
  rw [ahm, nI_clamp (by omega)]
  exact ⟨rfl, rfl⟩
theorem bx_n (t a : Nat) (h : t < 1024) (ha : a < 4) : nI (5 * t + 1) + nI a = nI (bxN t (nI a)) ∧ bxN t (nI a) = 5 * t + 1 + a := by
  unfold bxN
  rw [nI_add, nI_clamp (by omega)]
  exact ⟨rfl, rfl⟩
theorem bx_ok {t : Nat} {x : Int32} (h : t < 1024) (hx : kOK x) : nI (5 * t + 1) + x = nI (bxN t x) ∧ bxN t x < 5120 := by
  rcases hx with rfl | ⟨a, ha, rfl⟩
  · obtain ⟨h1, h2⟩ := bx_m t h
    exact ⟨h1, by omega⟩
  · obtain ⟨h1, h2⟩ := bx_n t a h ha
    exact ⟨h1, by omega⟩
theorem nI_m1 {a : Nat} (h : a < 2 ^ 31) : ¬ nI a = -1 := fun c => nI_pos h (by rw [c]; decide)
theorem l_whN {S : Nat × (Nat → Int32)} {d n : Nat} {I : mI} {J : mJ} {R : mR} {ko nh nl : Nat} (hn : 122 ≤ n) (hR : m_fin R) (ho : I 95 23 = nI ko) (hk : ko < 7) (hh : I 95 24 = nI nh) (hnh : nh ≤ 6) (hl : I 95 25 = nI nl) (hnl : nl ≤ 10) (hW : WFk I ko) {B : Nat → Int32} {t : Nat} {am x K i : Int32} (ht : t < 1024) (hx : kOK x)  {Q : Option Value → mI → mJ → mR → Prop} : ∀ a, a ≤ nl → ∀ w : Int32, AW S (d + 5) YM_orderAt n n Q 82 [(7, .int (ahd 0)), (5, .int (whN I ko B t x (B (bxN t x)) a w)), (0, .ref 95), (1, .int am), (2, .int K), (3, .int (nI t)), (4, .int x), (6, .int i)] [] (m_row I 110 B) J R n → AW S (d + 5) YM_orderAt n n Q 28 [(7, .int (ahd a)), (5, .int w), (0, .ref 95), (1, .int am), (2, .int K), (3, .int (nI t)), (4, .int x), (6, .int i)] [] (m_row I 110 B) J R n := by
  intro a
  induction a with
  | zero =>
    intro _ w hk9
    refine a_iload 0 dM_orderAt_28 rfl ?_
    refine a_if_lt (tgt := 82) dM_orderAt_30 (by decide) (fun _ => ?_) (fun c => False.elim (c ahd_0))
    exact hk9
  | succ a ih =>
    intro ha w hk9
    have hbx := bx_ok ht hx
    rw [ahd_s]
    refine a_iload 0 dM_orderAt_28 rfl ?_
    refine a_if_lt (tgt := 82) dM_orderAt_30 (by decide) (fun c => False.elim (nI_pos (by omega) c)) (fun _ => ?_)
    refine a_iload_n 5 dM_orderAt_33 rfl rfl ?_
    refine a_iload 0 dM_orderAt_34 rfl ?_
    refine a_callS (Q' := m_res (some (.int (f_has (nI t) (nI a)))) (m_row I 110 B) J R) (as := [.int (nI t), .int (nI a)]) (st := []) dM_orderAt_36 ml12_94 rfl (Nat.le_of_ble_eq_true rfl) (Nat.le_of_ble_eq_true rfl) rfl (Nat.le_refl _) (Nat.le_refl _) c_M_has (m_go ?_)
    show AW _ _ _ _ _ _ _ _ [.int (f_has (nI t) (nI a))] _ _ _ _
    refine a_if_eq (tgt := 72) dM_orderAt_39 (by decide) (fun c39 => ?_) (fun c39 => ?_)
    · refine a_iload 1 dM_orderAt_72 rfl ?_
      refine a_istore (lv' := [(5, .int w), (7, .int (nI a)), (0, .ref 95), (1, .int am), (2, .int K), (3, .int (nI t)), (4, .int x), (6, .int i)]) dM_orderAt_74 (by decide) rfl ?_
      refine a_iinc (v := (nI a + (-1))) (lv' := [(7, .int (nI a + (-1))), (5, .int w), (0, .ref 95), (1, .int am), (2, .int K), (3, .int (nI t)), (4, .int x), (6, .int i)]) 1 dM_orderAt_76 rfl rfl (by decide) rfl ?_
      refine a_goto (tgt := 28) dM_orderAt_79 (by decide) ?_
      have e0 : whN I ko B t x (B (bxN t x)) (a + 1) w = whN I ko B t x (B (bxN t x)) a w := by
        show whN I ko B t x (B (bxN t x)) a (if f_has (nI t) (nI a) = 0 then w else if obR I ko B t a x = B (bxN t x) then nI a else w) = _
        rw [if_pos c39]
      rw [e0] at hk9
      refine a_locs (lv' := [(7, .int (nI a + (-1))), (5, .int w), (0, .ref 95), (1, .int am), (2, .int K), (3, .int (nI t)), (4, .int x), (6, .int i)]) [0, 1, 2, 3, 4, 5, 6, 7] rfl ?_
      rw [ahd_m]
      exact ih (by omega) _ hk9
    · refine a_aload_n 2 dM_orderAt_42 rfl rfl ?_
      refine a_iload_n 5 dM_orderAt_43 rfl rfl ?_
      refine a_iload 0 dM_orderAt_44 rfl ?_
      refine a_iload 6 dM_orderAt_46 rfl ?_
      refine a_callV (Q' := m_res (some (.int (obR I ko B t a x))) (m_row I 110 B) J R) (as := [.int (nI t), .int (nI a), .int x]) (st := []) dM_orderAt_48 ml12_351 rfl (Nat.le_of_ble_eq_true rfl) ly_95 rfl rfl (by decide) (by omega) (Nat.le_of_ble_eq_true rfl) rfl (Nat.le_refl _) (Nat.le_refl _) (c_M_orderBy hn hR ho hk hh hnh hl hnl hW (by omega) (by omega) hx) (m_go ?_)
      show AW _ _ _ _ _ _ _ _ [.int (obR I ko B t a x)] _ _ _ _
      refine a_aload_n 2 dM_orderAt_51 rfl rfl ?_
      refine a_geta (r := 110) dM_orderAt_52 fl12_53 rfl ly_95 (by omega) (rf_95_38 hR) ?_
      refine a_iconstN (a := 5) dM_orderAt_55 (by decide) ?_
      refine a_iload_n 5 dM_orderAt_56 rfl rfl ?_
      refine a_imulN (a := 5) (b := t) dM_orderAt_57 ?_
      refine a_iconstN (a := 1) dM_orderAt_58 (by decide) ?_
      refine a_iaddN (a := (5 * t)) (b := 1) dM_orderAt_59 ?_
      refine a_iload 6 dM_orderAt_60 rfl ?_
      refine a_iadd dM_orderAt_62 ?_
      rw [show ((nI ((5 * t) + 1)) + x) = (nI (bxN t x)) from hbx.1]
      refine a_ialdN (a := (bxN t x)) dM_orderAt_63 ly_110 (by omega) hbx.2 (by decide) ?_
      rw [show (m_row I 110 B) 110 (bxN t x) = B (bxN t x) from rfl]
      refine a_icmp_ne (tgt := 72) dM_orderAt_64 (by decide) (fun c64 => ?_) (fun c64 => ?_)
      · refine a_iload 1 dM_orderAt_72 rfl ?_
        refine a_istore (lv' := [(5, .int w), (7, .int (nI a)), (0, .ref 95), (1, .int am), (2, .int K), (3, .int (nI t)), (4, .int x), (6, .int i)]) dM_orderAt_74 (by decide) rfl ?_
        refine a_iinc (v := (nI a + (-1))) (lv' := [(7, .int (nI a + (-1))), (5, .int w), (0, .ref 95), (1, .int am), (2, .int K), (3, .int (nI t)), (4, .int x), (6, .int i)]) 1 dM_orderAt_76 rfl rfl (by decide) rfl ?_
        refine a_goto (tgt := 28) dM_orderAt_79 (by decide) ?_
        have e0 : whN I ko B t x (B (bxN t x)) (a + 1) w = whN I ko B t x (B (bxN t x)) a w := by
          show whN I ko B t x (B (bxN t x)) a (if f_has (nI t) (nI a) = 0 then w else if obR I ko B t a x = B (bxN t x) then nI a else w) = _
          rw [if_neg c39, if_neg c64]
        rw [e0] at hk9
        refine a_locs (lv' := [(7, .int (nI a + (-1))), (5, .int w), (0, .ref 95), (1, .int am), (2, .int K), (3, .int (nI t)), (4, .int x), (6, .int i)]) [0, 1, 2, 3, 4, 5, 6, 7] rfl ?_
        rw [ahd_m]
        exact ih (by omega) _ hk9
      · refine a_iload 0 dM_orderAt_67 rfl ?_
        refine a_goto (tgt := 74) dM_orderAt_69 (by decide) ?_
        refine a_istore (lv' := [(5, .int (nI a)), (7, .int (nI a)), (0, .ref 95), (1, .int am), (2, .int K), (3, .int (nI t)), (4, .int x), (6, .int i)]) dM_orderAt_74 (by decide) rfl ?_
        refine a_iinc (v := (nI a + (-1))) (lv' := [(7, .int (nI a + (-1))), (5, .int (nI a)), (0, .ref 95), (1, .int am), (2, .int K), (3, .int (nI t)), (4, .int x), (6, .int i)]) 1 dM_orderAt_76 rfl rfl (by decide) rfl ?_
        refine a_goto (tgt := 28) dM_orderAt_79 (by decide) ?_
        have e0 : whN I ko B t x (B (bxN t x)) (a + 1) w = whN I ko B t x (B (bxN t x)) a (nI a) := by
          show whN I ko B t x (B (bxN t x)) a (if f_has (nI t) (nI a) = 0 then w else if obR I ko B t a x = B (bxN t x) then nI a else w) = _
          rw [if_neg c39, if_pos c64]
        rw [e0] at hk9
        refine a_locs (lv' := [(7, .int (nI a + (-1))), (5, .int (nI a)), (0, .ref 95), (1, .int am), (2, .int K), (3, .int (nI t)), (4, .int x), (6, .int i)]) [0, 1, 2, 3, 4, 5, 6, 7] rfl ?_
        rw [ahd_m]
        exact ih (by omega) _ hk9
abbrev oaT : Type := Nat × Int32 × Int32
def whO (I : mI) (ko nl : Nat) (B : Nat → Int32) (s : oaT) : Int32 := whN I ko B s.1 s.2.1 (B (bxN s.1 s.2.1)) nl (-1)
def woN (I : mI) (ko nl : Nat) (B : Nat → Int32) (s : oaT) : Nat := (whO I ko nl B s).toNatClampNeg
/-- a letter is found, and the set and what came last are such -/
def oaK (I : mI) (ko nl : Nat) (B : Nat → Int32) (s : oaT) : Prop := s.1 < 1024 ∧ kOK s.2.1 ∧ whO I ko nl B s = nI (woN I ko nl B s) ∧ woN I ko nl B s < nl
def oaN (I : mI) (ko nl : Nat) (B : Nat → Int32) (s0 : oaT) : Nat → oaT
  | 0 => s0
  | k + 1 => (rmN (oaN I ko nl B s0 k).1 (woN I ko nl B (oaN I ko nl B s0 k)), oR I ko (19 + woN I ko nl B (oaN I ko nl B s0 k)), nI (woN I ko nl B (oaN I ko nl B s0 k)))
theorem l_oaN {S : Nat × (Nat → Int32)} {d n : Nat} {I : mI} {J : mJ} {R : mR} {ko nh nl : Nat} (hn : 122 ≤ n) (hR : m_fin R) (ho : I 95 23 = nI ko) (hk : ko < 7) (hh : I 95 24 = nI nh) (hnh : nh ≤ 6) (hl : I 95 25 = nI nl) (hnl : nl ≤ 10) (hW : WFk I ko) {B : Nat → Int32} {am : Int32} {K : Nat} (hK : K < 10) {s0 : oaT}   {Q : Option Value → mI → mJ → mR → Prop} (hI : ∀ k, k ≤ K → oaK I ko nl B (oaN I ko nl B s0 k)) (hx : AW S (d + 5) YM_orderAt n n Q 105 [(6, .int (nI (K + 1))), (3, .int (nI (oaN I ko nl B s0 (K + 1)).1)), (4, .int (oaN I ko nl B s0 (K + 1)).2.1), (5, .int (oaN I ko nl B s0 (K + 1)).2.2), (0, .ref 95), (1, .int am), (2, .int (nI K))] [] (m_row I 110 B) J R n) : ∀ m k, k + m = (K + 1) → ∀ s : Nat × Int32 × Int32, oaN I ko nl B s0 k = s → AW S (d + 5) YM_orderAt n n Q 11 [(6, .int (nI k)), (3, .int (nI s.1)), (4, .int s.2.1), (5, .int s.2.2), (0, .ref 95), (1, .int am), (2, .int (nI K))] [] (m_row I 110 B) J R n := by
  intro m
  induction m with
  | zero =>
    intro k hk9 s es
    rw [show k = (K + 1) by omega] at es ⊢
    subst es
    refine a_iload 0 dM_orderAt_11 rfl ?_
    refine a_iload_n 6 dM_orderAt_13 rfl rfl ?_
    refine a_icmp_gtN (tgt := 105) dM_orderAt_14 (by decide) (by omega) (by omega) (fun _ => ?_) (fun c => False.elim (by omega))
    exact hx
  | succ m ih =>
    intro k hk9 s es
    have hi := hI k (by omega)
    rw [es] at hi
    have hw10 := hi.2.2.2
    refine a_iload 0 dM_orderAt_11 rfl ?_
    refine a_iload_n 6 dM_orderAt_13 rfl rfl ?_
    refine a_icmp_gtN (tgt := 105) dM_orderAt_14 (by decide) (by omega) (by omega) (fun c => False.elim (by omega)) (fun _ => ?_)
    refine a_iconst (v := -1) dM_orderAt_17 (by decide) ?_
    refine a_istore (lv' := [(5, .int (-1)), (6, .int (nI k)), (3, .int (nI s.1)), (4, .int s.2.1), (0, .ref 95), (1, .int am), (2, .int (nI K))]) dM_orderAt_18 (by decide) rfl ?_
    refine a_aload_n 4 dM_orderAt_20 rfl rfl ?_
    refine a_geti dM_orderAt_21 fl12_262 rfl ly_95 (by omega) ?_
    rw [show (m_row I 110 B) 95 25 = (nI nl) from hl]
    refine a_iconstN (a := 1) dM_orderAt_24 (by decide) ?_
    refine a_isub dM_orderAt_25 ?_
    refine a_istore (lv' := [(7, .int ((nI nl) - (nI 1))), (5, .int (-1)), (6, .int (nI k)), (3, .int (nI s.1)), (4, .int s.2.1), (0, .ref 95), (1, .int am), (2, .int (nI K))]) dM_orderAt_26 (by decide) rfl ?_
    refine a_locs (lv' := [(7, .int ((nI nl) - (nI 1))), (5, .int (-1)), (0, .ref 95), (1, .int am), (2, .int (nI K)), (3, .int (nI s.1)), (4, .int s.2.1), (6, .int (nI k))]) [0, 1, 5, 6, 7, 3, 4, 2] rfl ?_
    rw [show (nI nl - nI 1) = ahd nl from rfl]
    refine l_whN hn hR ho hk hh hnh hl hnl hW (B := B) (t := s.1) (am := am) (x := s.2.1) (K := nI K) (i := nI k) hi.1 hi.2.1 nl (Nat.le_refl _) (-1) ?_
    rw [show whN I ko B s.1 s.2.1 (B (bxN s.1 s.2.1)) nl (-1) = nI (woN I ko nl B s) from hi.2.2.1]
    refine a_iload_n 5 dM_orderAt_82 rfl rfl ?_
    refine a_iconstN (a := 1) dM_orderAt_83 (by decide) ?_
    refine a_iload 1 dM_orderAt_84 rfl ?_
    refine a_ishl dM_orderAt_86 ?_
    refine a_iconst (v := -1) dM_orderAt_87 (by decide) ?_
    refine a_ixor dM_orderAt_88 ?_
    refine a_iand dM_orderAt_89 ?_
    rw [show ((nI s.1) &&& (((nI 1) <<< ((nI (woN I ko nl B s)) &&& 31)) ^^^ (-1))) = (nI (rmN s.1 (woN I ko nl B s))) from (rm_nI _ _)]
    refine a_istore_n (lv' := [(3, .int (nI (rmN s.1 (woN I ko nl B s)))), (7, .int (ahd 0)), (5, .int (nI (woN I ko nl B s))), (0, .ref 95), (1, .int am), (2, .int (nI K)), (4, .int s.2.1), (6, .int (nI k))]) dM_orderAt_90 rfl (by decide) rfl ?_
    refine a_aload_n 3 dM_orderAt_91 rfl rfl ?_
    refine a_iload 2 dM_orderAt_92 rfl ?_
    refine a_callV (Q' := m_res (some (.int (oR I ko (19 + (woN I ko nl B s))))) (m_row I 110 B) J R) (as := [.int (nI (woN I ko nl B s))]) (st := []) dM_orderAt_94 ml12_271 rfl (Nat.le_of_ble_eq_true rfl) ly_95 rfl rfl (by decide) (by omega) (Nat.le_of_ble_eq_true rfl) rfl (Nat.le_refl _) (Nat.le_refl _) (c_M_kind hn hR (show (m_row I 110 B) 95 23 = nI ko from ho) hk (by omega)) (m_go ?_)
    show AW _ _ _ _ _ _ _ _ [.int (oR I ko (19 + (woN I ko nl B s)))] _ _ _ _
    refine a_istore (lv' := [(4, .int (oR I ko (19 + (woN I ko nl B s)))), (3, .int (nI (rmN s.1 (woN I ko nl B s)))), (7, .int (ahd 0)), (5, .int (nI (woN I ko nl B s))), (0, .ref 95), (1, .int am), (2, .int (nI K)), (6, .int (nI k))]) dM_orderAt_97 (by decide) rfl ?_
    refine a_iincN (lv' := [(6, .int (nI (k + 1))), (4, .int (oR I ko (19 + (woN I ko nl B s)))), (3, .int (nI (rmN s.1 (woN I ko nl B s)))), (7, .int (ahd 0)), (5, .int (nI (woN I ko nl B s))), (0, .ref 95), (1, .int am), (2, .int (nI K))]) (j := 7) dM_orderAt_99 rfl (by decide) rfl ?_
    refine a_goto (tgt := 11) dM_orderAt_102 (by decide) ?_
    have e' : oaN I ko nl B s0 (k + 1) = ((rmN s.1 (woN I ko nl B s)), (oR I ko (19 + (woN I ko nl B s))), (nI (woN I ko nl B s))) := by
      unfold oaN
      rw [es]
    refine a_locs (lv' := [(6, .int (nI (k + 1))), (3, .int (nI (rmN s.1 (woN I ko nl B s)))), (4, .int (oR I ko (19 + (woN I ko nl B s)))), (5, .int (nI (woN I ko nl B s))), (0, .ref 95), (1, .int am), (2, .int (nI K))]) [0, 2, 1, 4, 5, 6, 7] rfl ?_
    exact ih (k + 1) (by omega) ((rmN s.1 (woN I ko nl B s)), (oR I ko (19 + (woN I ko nl B s))), (nI (woN I ko nl B s))) e'
theorem c_M_orderAt {S : Nat × (Nat → Int32)} {d n : Nat} {I : mI} {J : mJ} {R : mR} {ko nh nl : Nat} (hn : 122 ≤ n) (hR : m_fin R) (ho : I 95 23 = nI ko) (hk : ko < 7) (hh : I 95 24 = nI nh) (hnh : nh ≤ 6) (hl : I 95 25 = nI nl) (hnl : nl ≤ 10) (hW : WFk I ko) {B : Nat → Int32} {t K : Nat} (hK : K < 10) (hI : ∀ k, k ≤ K → oaK I ko nl B (oaN I ko nl B (t, -1, -1) k)) : RUN S (d + 5) YM_orderAt [.ref 95, .int (nI t), .int (nI K)] (m_row I 110 B) J R n (some (.int (oaN I ko nl B (t, -1, -1) (K + 1)).2.2)) (m_row I 110 B) J R n := by
  show AW S _ YM_orderAt n n _ 0 [(0, .ref 95), (1, .int (nI t)), (2, .int (nI K))] [] (m_row I 110 B) J R n
  refine a_iload_n 1 dM_orderAt_0 rfl rfl ?_
  refine a_istore_n (lv' := [(3, .int (nI t)), (0, .ref 95), (1, .int (nI t)), (2, .int (nI K))]) dM_orderAt_1 rfl (by decide) rfl ?_
  refine a_iconst (v := -1) dM_orderAt_2 (by decide) ?_
  refine a_istore (lv' := [(4, .int (-1)), (3, .int (nI t)), (0, .ref 95), (1, .int (nI t)), (2, .int (nI K))]) dM_orderAt_3 (by decide) rfl ?_
  refine a_iconst (v := -1) dM_orderAt_5 (by decide) ?_
  refine a_istore (lv' := [(5, .int (-1)), (4, .int (-1)), (3, .int (nI t)), (0, .ref 95), (1, .int (nI t)), (2, .int (nI K))]) dM_orderAt_6 (by decide) rfl ?_
  refine a_iconstN (a := 0) dM_orderAt_8 (by decide) ?_
  refine a_istore (lv' := [(6, .int (nI 0)), (5, .int (-1)), (4, .int (-1)), (3, .int (nI t)), (0, .ref 95), (1, .int (nI t)), (2, .int (nI K))]) dM_orderAt_9 (by decide) rfl ?_
  refine a_locs (lv' := [(6, .int (nI 0)), (3, .int (nI t)), (4, .int (-1)), (5, .int (-1)), (0, .ref 95), (1, .int (nI t)), (2, .int (nI K))]) [0, 3, 2, 1, 4, 5, 6] rfl ?_
  refine l_oaN  hn hR ho hk hh hnh hl hnl hW (am := nI t) hK (s0 := (t, -1, -1)) hI ?_ (K + 1) 0 (by omega) _ rfl
  refine a_iload 3 dM_orderAt_105 rfl ?_
  exact a_iret dM_orderAt_107 rfl ⟨rfl, rfl, rfl, rfl⟩
theorem b_M_order0 {S : Nat × (Nat → Int32)} {d n : Nat} {I : mI} {J : mJ} {R : mR} {ko nh nl : Nat} (hn : 122 ≤ n) (hR : m_fin R) (ho : I 95 23 = nI ko) (hk : ko < 7) (hh : I 95 24 = nI nh) (hnh : nh ≤ 6) (hl : I 95 25 = nI nl) (hnl : nl ≤ 10) (hW : WFk I ko) {h : Nat} (hh6 : h < nh) {u : Int32} {x : Int32} (hin : (f_in x (-1) (nI (onesN (nI (ltN (I 106) (nI h) nl)) 10) - nI 1)) = 0)  {Q : Option Value → mI → mJ → mR → Prop} (hQ : Q (some (.int (-1000))) I J R) : AW S (d + 8) YM_order n n Q 25 [(0, .ref 95), (2, .int (nI h)), (3, .int u), (4, .int x)] [] I J R n := by
  refine a_aload_n 0 dM_order_25 rfl rfl ?_
  refine a_iload_n 1 dM_order_26 rfl rfl ?_
  refine a_callV (Q' := m_res (some (.int (nI (ltN (I 106) (nI h) nl)))) I J R) (as := [.int (nI h)]) (st := []) dM_order_27 ml12_362 rfl (Nat.le_of_ble_eq_true rfl) ly_95 rfl rfl (by decide) (by omega) (Nat.le_of_ble_eq_true rfl) rfl (Nat.le_refl _) (Nat.le_refl _) (c_M_lettersN (I := I) hn hR hl hnl) (m_go ?_)
  show AW _ _ _ _ _ _ _ _ [.int (nI (ltN (I 106) (nI h) nl))] _ _ _ _
  refine a_istore (lv' := [(5, .int (nI (ltN (I 106) (nI h) nl))), (0, .ref 95), (2, .int (nI h)), (3, .int u), (4, .int x)]) dM_order_30 (by decide) rfl ?_
  refine a_iload 4 dM_order_32 rfl ?_
  refine a_iconst (v := -1) dM_order_34 (by decide) ?_
  refine a_iload 0 dM_order_35 rfl ?_
  refine a_callS (Q' := m_res (some (.int (nI (onesN (nI (ltN (I 106) (nI h) nl)) 10)))) I J R) (as := [.int (nI (ltN (I 106) (nI h) nl))]) (st := [.int (-1), .int x]) dM_order_37 ml12_369 rfl (Nat.le_of_ble_eq_true rfl) (Nat.le_of_ble_eq_true rfl) rfl (Nat.le_refl _) (Nat.le_refl _) c_M_ones (m_go ?_)
  show AW _ _ _ _ _ _ _ _ [.int (nI (onesN (nI (ltN (I 106) (nI h) nl)) 10)), .int (-1), .int x] _ _ _ _
  refine a_iconstN (a := 1) dM_order_40 (by decide) ?_
  refine a_isub dM_order_41 ?_
  refine a_callS (Q' := m_res (some (.int 0)) I J R) (as := [.int x, .int (-1), .int ((nI (onesN (nI (ltN (I 106) (nI h) nl)) 10)) - (nI 1))]) (st := []) dM_order_42 ml12_102 rfl (Nat.le_of_ble_eq_true rfl) (Nat.le_of_ble_eq_true rfl) rfl (Nat.le_refl _) (Nat.le_refl _) (c_M_inE hin) (m_go ?_)
  show AW _ _ _ _ _ _ _ _ [.int 0] _ _ _ _
  refine a_if_ne (tgt := 52) dM_order_45 (by decide) (fun c => False.elim (c rfl)) (fun _ => ?_)
  refine a_sipush (v := -1000) dM_order_48 (by decide) ?_
  exact a_iret dM_order_51 rfl hQ
theorem b_M_orderM {S : Nat × (Nat → Int32)} {d n : Nat} {I : mI} {J : mJ} {R : mR} {ko nh nl : Nat} (hn : 122 ≤ n) (hR : m_fin R) (ho : I 95 23 = nI ko) (hk : ko < 7) (hh : I 95 24 = nI nh) (hnh : nh ≤ 6) (hl : I 95 25 = nI nl) (hnl : nl ≤ 10) (hW : WFk I ko) {h : Nat} (hh6 : h < nh) {u : Int32} (hin : (f_in (-1) (-1) (nI (onesN (nI (ltN (I 106) (nI h) nl)) 10) - nI 1)) = 1)  {Q : Option Value → mI → mJ → mR → Prop} (hQ : ∀ B, Q (some (.int (boR I ko nl h (ltN (I 106) (nI h) nl) u (I 110)))) (m_row I 110 B) J R) : AW S (d + 8) YM_order n n Q 25 [(0, .ref 95), (2, .int (nI h)), (3, .int u), (4, .int (-1))] [] I J R n := by
  refine a_mem M110_self.symm ?_
  refine a_aload_n 0 dM_order_25 rfl rfl ?_
  refine a_iload_n 1 dM_order_26 rfl rfl ?_
  refine a_callV (Q' := m_res (some (.int (nI (ltN (I 106) (nI h) nl)))) (m_row I 110 (I 110)) J R) (as := [.int (nI h)]) (st := []) dM_order_27 ml12_362 rfl (Nat.le_of_ble_eq_true rfl) ly_95 rfl rfl (by decide) (by omega) (Nat.le_of_ble_eq_true rfl) rfl (Nat.le_refl _) (Nat.le_refl _) (c_M_lettersN (I := (m_row I 110 (I 110))) hn hR hl hnl) (m_go ?_)
  show AW _ _ _ _ _ _ _ _ [.int (nI (ltN (I 106) (nI h) nl))] _ _ _ _
  refine a_istore (lv' := [(5, .int (nI (ltN (I 106) (nI h) nl))), (0, .ref 95), (2, .int (nI h)), (3, .int u), (4, .int (-1))]) dM_order_30 (by decide) rfl ?_
  refine a_iload 4 dM_order_32 rfl ?_
  refine a_iconst (v := -1) dM_order_34 (by decide) ?_
  refine a_iload 0 dM_order_35 rfl ?_
  refine a_callS (Q' := m_res (some (.int (nI (onesN (nI (ltN (I 106) (nI h) nl)) 10)))) (m_row I 110 (I 110)) J R) (as := [.int (nI (ltN (I 106) (nI h) nl))]) (st := [.int (-1), .int (-1)]) dM_order_37 ml12_369 rfl (Nat.le_of_ble_eq_true rfl) (Nat.le_of_ble_eq_true rfl) rfl (Nat.le_refl _) (Nat.le_refl _) c_M_ones (m_go ?_)
  show AW _ _ _ _ _ _ _ _ [.int (nI (onesN (nI (ltN (I 106) (nI h) nl)) 10)), .int (-1), .int (-1)] _ _ _ _
  refine a_iconstN (a := 1) dM_order_40 (by decide) ?_
  refine a_isub dM_order_41 ?_
  refine a_callS (Q' := m_res (some (.int 1)) (m_row I 110 (I 110)) J R) (as := [.int (-1), .int (-1), .int ((nI (onesN (nI (ltN (I 106) (nI h) nl)) 10)) - (nI 1))]) (st := []) dM_order_42 ml12_102 rfl (Nat.le_of_ble_eq_true rfl) (Nat.le_of_ble_eq_true rfl) rfl (Nat.le_refl _) (Nat.le_refl _) (c_M_inE hin) (m_go ?_)
  show AW _ _ _ _ _ _ _ _ [.int 1] _ _ _ _
  refine a_if_ne (tgt := 52) dM_order_45 (by decide) (fun _ => ?_) (fun c => False.elim (absurd c (by decide)))
  refine a_aload_n 1 dM_order_52 rfl rfl ?_
  refine a_iload_n 2 dM_order_53 rfl rfl ?_
  refine a_iload 0 dM_order_54 rfl ?_
  refine a_iload_n 3 dM_order_56 rfl rfl ?_
  refine a_callV (Q' := m_res (some (.int (boR I ko nl h (ltN (I 106) (nI h) nl) u (I 110)))) (m_row I 110 (foN I ko nl (nI (ltN (I 106) (nI h) nl)) u (I 110) 1024)) J R) (as := [.int (nI h), .int (nI (ltN (I 106) (nI h) nl)), .int u]) (st := []) dM_order_57 ml12_365 rfl (Nat.le_of_ble_eq_true rfl) ly_95 rfl rfl (by decide) (by omega) (Nat.le_of_ble_eq_true rfl) rfl (Nat.le_refl _) (Nat.le_refl _) (c_M_bestOf hn hR ho hk hh hnh hl hnl hW (by omega) (lt_lt hnl)) (m_go ?_)
  show AW _ _ _ _ _ _ _ _ [.int (boR I ko nl h (ltN (I 106) (nI h) nl) u (I 110))] _ _ _ _
  refine a_istore (lv' := [(6, .int (boR I ko nl h (ltN (I 106) (nI h) nl) u (I 110))), (5, .int (nI (ltN (I 106) (nI h) nl))), (0, .ref 95), (2, .int (nI h)), (3, .int u), (4, .int (-1))]) dM_order_60 (by decide) rfl ?_
  refine a_iload 5 dM_order_62 rfl ?_
  refine a_iconst (v := -1) dM_order_64 (by decide) ?_
  refine a_icmp_ne (tgt := 73) dM_order_65 (by decide) (fun c => False.elim (c rfl)) (fun _ => ?_)
  refine a_iload 0 dM_order_68 rfl ?_
  refine a_goto (tgt := 81) dM_order_70 (by decide) ?_
  exact a_iret dM_order_81 rfl (hQ _)
theorem b_M_orderN {S : Nat × (Nat → Int32)} {d n : Nat} {I : mI} {J : mJ} {R : mR} {ko nh nl : Nat} (hn : 122 ≤ n) (hR : m_fin R) (ho : I 95 23 = nI ko) (hk : ko < 7) (hh : I 95 24 = nI nh) (hnh : nh ≤ 6) (hl : I 95 25 = nI nl) (hnl : nl ≤ 10) (hW : WFk I ko) {h : Nat} (hh6 : h < nh) {u : Int32} {K : Nat} (hK : K < 10) (hin : (f_in (nI K) (-1) (nI (onesN (nI (ltN (I 106) (nI h) nl)) 10) - nI 1)) = 1) (hI : ∀ k, k ≤ K → oaK I ko nl (foN I ko nl (nI (ltN (I 106) (nI h) nl)) u (I 110) 1024) (oaN I ko nl (foN I ko nl (nI (ltN (I 106) (nI h) nl)) u (I 110) 1024) ((ltN (I 106) (nI h) nl), -1, -1) k))  {Q : Option Value → mI → mJ → mR → Prop} (hQ : ∀ B, Q (some (.int ((oaN I ko nl (foN I ko nl (nI (ltN (I 106) (nI h) nl)) u (I 110) 1024) ((ltN (I 106) (nI h) nl), -1, -1) (K + 1)).2.2))) (m_row I 110 B) J R) : AW S (d + 8) YM_order n n Q 25 [(0, .ref 95), (2, .int (nI h)), (3, .int u), (4, .int (nI K))] [] I J R n := by
  refine a_mem M110_self.symm ?_
  refine a_aload_n 0 dM_order_25 rfl rfl ?_
  refine a_iload_n 1 dM_order_26 rfl rfl ?_
  refine a_callV (Q' := m_res (some (.int (nI (ltN (I 106) (nI h) nl)))) (m_row I 110 (I 110)) J R) (as := [.int (nI h)]) (st := []) dM_order_27 ml12_362 rfl (Nat.le_of_ble_eq_true rfl) ly_95 rfl rfl (by decide) (by omega) (Nat.le_of_ble_eq_true rfl) rfl (Nat.le_refl _) (Nat.le_refl _) (c_M_lettersN (I := (m_row I 110 (I 110))) hn hR hl hnl) (m_go ?_)
  show AW _ _ _ _ _ _ _ _ [.int (nI (ltN (I 106) (nI h) nl))] _ _ _ _
  refine a_istore (lv' := [(5, .int (nI (ltN (I 106) (nI h) nl))), (0, .ref 95), (2, .int (nI h)), (3, .int u), (4, .int (nI K))]) dM_order_30 (by decide) rfl ?_
  refine a_iload 4 dM_order_32 rfl ?_
  refine a_iconst (v := -1) dM_order_34 (by decide) ?_
  refine a_iload 0 dM_order_35 rfl ?_
  refine a_callS (Q' := m_res (some (.int (nI (onesN (nI (ltN (I 106) (nI h) nl)) 10)))) (m_row I 110 (I 110)) J R) (as := [.int (nI (ltN (I 106) (nI h) nl))]) (st := [.int (-1), .int (nI K)]) dM_order_37 ml12_369 rfl (Nat.le_of_ble_eq_true rfl) (Nat.le_of_ble_eq_true rfl) rfl (Nat.le_refl _) (Nat.le_refl _) c_M_ones (m_go ?_)
  show AW _ _ _ _ _ _ _ _ [.int (nI (onesN (nI (ltN (I 106) (nI h) nl)) 10)), .int (-1), .int (nI K)] _ _ _ _
  refine a_iconstN (a := 1) dM_order_40 (by decide) ?_
  refine a_isub dM_order_41 ?_
  refine a_callS (Q' := m_res (some (.int 1)) (m_row I 110 (I 110)) J R) (as := [.int (nI K), .int (-1), .int ((nI (onesN (nI (ltN (I 106) (nI h) nl)) 10)) - (nI 1))]) (st := []) dM_order_42 ml12_102 rfl (Nat.le_of_ble_eq_true rfl) (Nat.le_of_ble_eq_true rfl) rfl (Nat.le_refl _) (Nat.le_refl _) (c_M_inE hin) (m_go ?_)
  show AW _ _ _ _ _ _ _ _ [.int 1] _ _ _ _
  refine a_if_ne (tgt := 52) dM_order_45 (by decide) (fun _ => ?_) (fun c => False.elim (absurd c (by decide)))
  refine a_aload_n 1 dM_order_52 rfl rfl ?_
  refine a_iload_n 2 dM_order_53 rfl rfl ?_
  refine a_iload 0 dM_order_54 rfl ?_
  refine a_iload_n 3 dM_order_56 rfl rfl ?_
  refine a_callV (Q' := m_res (some (.int (boR I ko nl h (ltN (I 106) (nI h) nl) u (I 110)))) (m_row I 110 (foN I ko nl (nI (ltN (I 106) (nI h) nl)) u (I 110) 1024)) J R) (as := [.int (nI h), .int (nI (ltN (I 106) (nI h) nl)), .int u]) (st := []) dM_order_57 ml12_365 rfl (Nat.le_of_ble_eq_true rfl) ly_95 rfl rfl (by decide) (by omega) (Nat.le_of_ble_eq_true rfl) rfl (Nat.le_refl _) (Nat.le_refl _) (c_M_bestOf hn hR ho hk hh hnh hl hnl hW (by omega) (lt_lt hnl)) (m_go ?_)
  show AW _ _ _ _ _ _ _ _ [.int (boR I ko nl h (ltN (I 106) (nI h) nl) u (I 110))] _ _ _ _
  refine a_istore (lv' := [(6, .int (boR I ko nl h (ltN (I 106) (nI h) nl) u (I 110))), (5, .int (nI (ltN (I 106) (nI h) nl))), (0, .ref 95), (2, .int (nI h)), (3, .int u), (4, .int (nI K))]) dM_order_60 (by decide) rfl ?_
  refine a_iload 5 dM_order_62 rfl ?_
  refine a_iconst (v := -1) dM_order_64 (by decide) ?_
  refine a_icmp_ne (tgt := 73) dM_order_65 (by decide) (fun _ => ?_) (fun c => False.elim (nI_m1 (by omega) c))
  refine a_aload_n 2 dM_order_73 rfl rfl ?_
  refine a_iload 1 dM_order_74 rfl ?_
  refine a_iload 5 dM_order_76 rfl ?_
  refine a_callV (Q' := m_res (some (.int (oaN I ko nl (foN I ko nl (nI (ltN (I 106) (nI h) nl)) u (I 110) 1024) ((ltN (I 106) (nI h) nl), -1, -1) (K + 1)).2.2)) (m_row I 110 (foN I ko nl (nI (ltN (I 106) (nI h) nl)) u (I 110) 1024)) J R) (as := [.int (nI (ltN (I 106) (nI h) nl)), .int (nI K)]) (st := []) dM_order_78 ml12_372 rfl (Nat.le_of_ble_eq_true rfl) ly_95 rfl rfl (by decide) (by omega) (Nat.le_of_ble_eq_true rfl) rfl (Nat.le_refl _) (Nat.le_refl _) (c_M_orderAt hn hR ho hk hh hnh hl hnl hW hK hI) (m_go ?_)
  show AW _ _ _ _ _ _ _ _ [.int (oaN I ko nl (foN I ko nl (nI (ltN (I 106) (nI h) nl)) u (I 110) 1024) ((ltN (I 106) (nI h) nl), -1, -1) (K + 1)).2.2] _ _ _ _
  exact a_iret dM_order_81 rfl (hQ _)
