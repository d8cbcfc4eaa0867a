theorem shl_P {nl P : Nat} (hP : 2 ^ nl = P) (h : nl ≤ 10) : (nI 1) <<< (nI nl &&& 31) = nI P := by
  subst hP
  exact (show ∀ nl, nl ≤ 10 → (nI 1) <<< (nI nl &&& 31) = nI (2 ^ nl) by decide +kernel) nl h
theorem P_le {nl P : Nat} (hP : 2 ^ nl = P) (h : nl ≤ 10) : P ≤ 1024 := by
  subst hP
  exact Nat.pow_le_pow_right (n := 2) (by decide) h
def hoAS (I : mI) (ko nl t : Nat) (k : Nat) (s : Int64 × Int32) : Int64 × Int32 := ((s.1 + (Int32.toInt64 ((bhR I ko (oR I ko (3 + k)) ((nI t) &&& (ltsN (I 106) (nI k) nl)) nl).1))), ((bhR I ko (oR I ko (3 + k)) ((nI t) &&& (ltsN (I 106) (nI k) nl)) nl).2.2))
def hoA (I : mI) (ko nl t : Nat) (s0 : Int64 × Int32) : Nat → Int64 × Int32
  | 0 => s0
  | k + 1 => hoAS I ko nl t k (hoA I ko nl t s0 k)
theorem l_hoA {S : Nat × (Nat → Int32)} {d n : Nat} {I : mI} {J : mJ} {R : mR} {ko nh nl : Nat} (hn : 122 ≤ n) (hR : m_fin R) (ho : I 95 23 = nI ko) (hk : ko < 7) (hh : I 95 24 = nI nh) (hnh : nh ≤ 6) (hl : I 95 25 = nI nl) (hnl : nl ≤ 10) (hW : WFk I ko) {P : Nat} (hP : 2 ^ nl = P) (hP2 : P ≤ 1024) {u : Int32} {q t : Nat} {c0 : Int64} (ht : t < P)  {s0 : Int64 × Int32} {Q : Option Value → mI → mJ → mR → Prop}  (hx : AW S (d + 5) YM_hoped n n Q 103 [(9, .int (nI nh)), (4, .long (hoA I ko nl t s0 nh).1), (0, .ref 95), (2, .int (nI q)), (3, .int u), (6, .long c0), (8, .int (nI t))] [] (m_row I 95 (va_up (I 95) 39 ((hoA I ko nl t s0 nh).2))) J R n) : ∀ m k, k + m = nh → ∀ s : Int64 × Int32, hoA I ko nl t s0 k = s → AW S (d + 5) YM_hoped n n Q 67 [(9, .int (nI k)), (4, .long s.1), (0, .ref 95), (2, .int (nI q)), (3, .int u), (6, .long c0), (8, .int (nI t))] [] (m_row I 95 (va_up (I 95) 39 s.2)) J R n := by
  intro m
  induction m with
  | zero =>
    intro k hk9 s es
    rw [show k = nh by omega] at es ⊢
    subst es
    refine a_iload 0 dM_hoped_67 rfl ?_
    refine a_aload_n 2 dM_hoped_69 rfl rfl ?_
    refine a_geti dM_hoped_70 fl12_259 rfl ly_95 (by omega) ?_
    rw [show (m_row I 95 (va_up (I 95) 39 ((hoA I ko nl t s0 nh).2))) 95 24 = (nI nh) from hh]
    refine a_icmp_geN (tgt := 103) dM_hoped_73 (by decide) (by omega) (by omega) (fun _ => ?_) (fun c => False.elim (by omega))
    exact hx
  | succ m ih =>
    intro k hk9 s es
    refine a_iload 0 dM_hoped_67 rfl ?_
    refine a_aload_n 2 dM_hoped_69 rfl rfl ?_
    refine a_geti dM_hoped_70 fl12_259 rfl ly_95 (by omega) ?_
    rw [show (m_row I 95 (va_up (I 95) 39 s.2)) 95 24 = (nI nh) from hh]
    refine a_icmp_geN (tgt := 103) dM_hoped_73 (by decide) (by omega) (by omega) (fun c => False.elim (by omega)) (fun _ => ?_)
    refine a_lload 1 dM_hoped_76 rfl ?_
    refine a_aload_n 2 dM_hoped_78 rfl rfl ?_
    refine a_iload 0 dM_hoped_79 rfl ?_
    refine a_iload 6 dM_hoped_81 rfl ?_
    refine a_aload_n 2 dM_hoped_83 rfl rfl ?_
    refine a_iload 0 dM_hoped_84 rfl ?_
    refine a_callV (Q' := m_res (some (.int (ltsN (I 106) (nI k) nl))) (m_row I 95 (va_up (I 95) 39 s.2)) J R) (as := [.int (nI k)]) (st := [.int (nI t), .int (nI k), .ref 95, .long s.1]) dM_hoped_86 ml12_362 rfl (Nat.le_of_ble_eq_true rfl) ly_95 rfl rfl (by decide) (by omega) (Nat.le_of_ble_eq_true rfl) rfl (Nat.le_refl _) (Nat.le_refl _) (c_M_lettersOf (nl := nl) hn hR hl hnl) (m_go ?_)
    show AW _ _ _ _ _ _ _ _ [.int (ltsN (I 106) (nI k) nl), .int (nI t), .int (nI k), .ref 95, .long s.1] _ _ _ _
    refine a_iand dM_hoped_89 ?_
    refine a_callV (Q' := m_res (some (.int (bhR I ko (oR I ko (3 + k)) ((nI t) &&& (ltsN (I 106) (nI k) nl)) nl).1)) (m_row I 95 (va_up (I 95) 39 ((bhR I ko (oR I ko (3 + k)) ((nI t) &&& (ltsN (I 106) (nI k) nl)) nl).2.2))) J R) (as := [.int (nI k), .int ((nI t) &&& (ltsN (I 106) (nI k) nl))]) (st := [.long s.1]) dM_hoped_90 ml12_390 rfl (Nat.le_of_ble_eq_true rfl) ly_95 rfl rfl (by decide) (by omega) (Nat.le_of_ble_eq_true rfl) rfl (Nat.le_refl _) (Nat.le_refl _) (c_M_behindL hn hR ho hk hl hnl hW (by omega)) (m_go ?_)
    show AW _ _ _ _ _ _ _ _ [.int (bhR I ko (oR I ko (3 + k)) ((nI t) &&& (ltsN (I 106) (nI k) nl)) nl).1, .long s.1] _ _ _ _
    refine a_i2l dM_hoped_93 ?_
    refine a_ladd dM_hoped_94 ?_
    refine a_lstore (lv' := [(4, .long (s.1 + (Int32.toInt64 ((bhR I ko (oR I ko (3 + k)) ((nI t) &&& (ltsN (I 106) (nI k) nl)) nl).1)))), (9, .int (nI k)), (0, .ref 95), (2, .int (nI q)), (3, .int u), (6, .long c0), (8, .int (nI t))]) dM_hoped_95 (by decide) rfl ?_
    refine a_iincN (lv' := [(9, .int (nI (k + 1))), (4, .long (s.1 + (Int32.toInt64 ((bhR I ko (oR I ko (3 + k)) ((nI t) &&& (ltsN (I 106) (nI k) nl)) nl).1)))), (0, .ref 95), (2, .int (nI q)), (3, .int u), (6, .long c0), (8, .int (nI t))]) (j := 1) dM_hoped_97 rfl (by decide) rfl ?_
    refine a_goto (tgt := 67) dM_hoped_100 (by decide) ?_
    have e' : hoA I ko nl t s0 (k + 1) = ((s.1 + (Int32.toInt64 ((bhR I ko (oR I ko (3 + k)) ((nI t) &&& (ltsN (I 106) (nI k) nl)) nl).1))), ((bhR I ko (oR I ko (3 + k)) ((nI t) &&& (ltsN (I 106) (nI k) nl)) nl).2.2)) := by
      show hoAS I ko nl t k (hoA I ko nl t s0 k) = _
      rw [es]
      unfold hoAS
      rfl
    exact ih (k + 1) (by omega) ((s.1 + (Int32.toInt64 ((bhR I ko (oR I ko (3 + k)) ((nI t) &&& (ltsN (I 106) (nI k) nl)) nl).1))), ((bhR I ko (oR I ko (3 + k)) ((nI t) &&& (ltsN (I 106) (nI k) nl)) nl).2.2)) e'
def hoBS (I : mI) (ko nh nl q : Nat) (k : Nat) (s : Int64 × Int64 × Int32) : Int64 × Int64 × Int32 := (if (onesN (nI k) 10) = q then ((hoA I ko nl k (s.1, s.2.2) nh).1, (s.2.1 + 1), ((hoA I ko nl k (s.1, s.2.2) nh).2)) else (s.1, s.2.1, s.2.2))
def hoB (I : mI) (ko nh nl q : Nat) (s0 : Int64 × Int64 × Int32) : Nat → Int64 × Int64 × Int32
  | 0 => s0
  | k + 1 => hoBS I ko nh nl q k (hoB I ko nh nl q s0 k)
theorem l_hoB {S : Nat × (Nat → Int32)} {d n : Nat} {I : mI} {J : mJ} {R : mR} {ko nh nl : Nat} (hn : 122 ≤ n) (hR : m_fin R) (ho : I 95 23 = nI ko) (hk : ko < 7) (hh : I 95 24 = nI nh) (hnh : nh ≤ 6) (hl : I 95 25 = nI nl) (hnl : nl ≤ 10) (hW : WFk I ko) {P : Nat} (hP : 2 ^ nl = P) (hP2 : P ≤ 1024) {u : Int32} {q : Nat} (hq : q ≤ nl)  {s0 : Int64 × Int64 × Int32} {Q : Option Value → mI → mJ → mR → Prop}  (hx : AW S (d + 5) YM_hoped n n Q 109 [(8, .int (nI P)), (4, .long (hoB I ko nh nl q s0 P).1), (6, .long (hoB I ko nh nl q s0 P).2.1), (0, .ref 95), (2, .int (nI q)), (3, .int u)] [] (m_row I 95 (va_up (I 95) 39 ((hoB I ko nh nl q s0 P).2.2))) J R n) : ∀ m k, k + m = P → ∀ s : Int64 × Int64 × Int32, hoB I ko nh nl q s0 k = s → AW S (d + 5) YM_hoped n n Q 38 [(8, .int (nI k)), (4, .long s.1), (6, .long s.2.1), (0, .ref 95), (2, .int (nI q)), (3, .int u)] [] (m_row I 95 (va_up (I 95) 39 s.2.2)) J R n := by
  intro m
  induction m with
  | zero =>
    intro k hk9 s es
    rw [show k = P by omega] at es ⊢
    subst es
    refine a_iload 0 dM_hoped_38 rfl ?_
    refine a_iconstN (a := 1) dM_hoped_40 (by decide) ?_
    refine a_aload_n 3 dM_hoped_41 rfl rfl ?_
    refine a_geti dM_hoped_42 fl12_262 rfl ly_95 (by omega) ?_
    rw [show (m_row I 95 (va_up (I 95) 39 ((hoB I ko nh nl q s0 P).2.2))) 95 25 = (nI nl) from hl]
    refine a_ishl dM_hoped_45 ?_
    rw [show ((nI 1) <<< ((nI nl) &&& 31)) = (nI P) from (shl_P hP hnl)]
    refine a_icmp_geN (tgt := 109) dM_hoped_46 (by decide) (by omega) (by omega) (fun _ => ?_) (fun c => False.elim (by omega))
    exact hx
  | succ m ih =>
    intro k hk9 s es
    have o1 := onesN_le (nI k) 10
    refine a_iload 0 dM_hoped_38 rfl ?_
    refine a_iconstN (a := 1) dM_hoped_40 (by decide) ?_
    refine a_aload_n 3 dM_hoped_41 rfl rfl ?_
    refine a_geti dM_hoped_42 fl12_262 rfl ly_95 (by omega) ?_
    rw [show (m_row I 95 (va_up (I 95) 39 s.2.2)) 95 25 = (nI nl) from hl]
    refine a_ishl dM_hoped_45 ?_
    rw [show ((nI 1) <<< ((nI nl) &&& 31)) = (nI P) from (shl_P hP hnl)]
    refine a_icmp_geN (tgt := 109) dM_hoped_46 (by decide) (by omega) (by omega) (fun c => False.elim (by omega)) (fun _ => ?_)
    refine a_iload 0 dM_hoped_49 rfl ?_
    refine a_callS (Q' := m_res (some (.int (nI (onesN (nI k) 10)))) (m_row I 95 (va_up (I 95) 39 s.2.2)) J R) (as := [.int (nI k)]) (st := []) dM_hoped_51 ml12_369 rfl (Nat.le_of_ble_eq_true rfl) (Nat.le_of_ble_eq_true rfl) rfl (Nat.le_refl _) (Nat.le_refl _) c_M_ones (m_go ?_)
    show AW _ _ _ _ _ _ _ _ [.int (nI (onesN (nI k) 10))] _ _ _ _
    refine a_iload_n 4 dM_hoped_54 rfl rfl ?_
    refine a_icmp_neN (tgt := 103) dM_hoped_55 (by decide) (by omega) (by omega) (fun c55 => ?_) (fun c55 => ?_)
    · refine a_iincN (lv' := [(8, .int (nI (k + 1))), (4, .long s.1), (6, .long s.2.1), (0, .ref 95), (2, .int (nI q)), (3, .int u)]) (j := 0) dM_hoped_103 rfl (by decide) rfl ?_
      refine a_goto (tgt := 38) dM_hoped_106 (by decide) ?_
      have e' : hoB I ko nh nl q s0 (k + 1) = (s.1, s.2.1, s.2.2) := by
        show hoBS I ko nh nl q k (hoB I ko nh nl q s0 k) = _
        rw [es]
        unfold hoBS
        rw [if_neg (show ¬ ((onesN (nI k) 10) = q) by omega)]
      exact ih (k + 1) (by omega) (s.1, s.2.1, s.2.2) e'
    · refine a_lload 2 dM_hoped_58 rfl ?_
      refine a_lconst (v := 1) dM_hoped_60 (by decide) ?_
      refine a_ladd dM_hoped_61 ?_
      refine a_lstore (lv' := [(6, .long (s.2.1 + 1)), (8, .int (nI k)), (4, .long s.1), (0, .ref 95), (2, .int (nI q)), (3, .int u)]) dM_hoped_62 (by decide) rfl ?_
      refine a_iconstN (a := 0) dM_hoped_64 (by decide) ?_
      refine a_istore (lv' := [(9, .int (nI 0)), (6, .long (s.2.1 + 1)), (8, .int (nI k)), (4, .long s.1), (0, .ref 95), (2, .int (nI q)), (3, .int u)]) dM_hoped_65 (by decide) rfl ?_
      refine a_locs (lv' := [(9, .int (nI 0)), (4, .long s.1), (0, .ref 95), (2, .int (nI q)), (3, .int u), (6, .long (s.2.1 + 1)), (8, .int (nI k))]) [0, 3, 4, 5, 6, 1, 2] rfl ?_
      refine l_hoA (s0 := (s.1, s.2.2)) hn hR ho hk hh hnh hl hnl hW hP hP2 (t := k) (by omega) ?_ nh 0 (by omega) _ rfl
      refine a_iincN (lv' := [(8, .int (nI (k + 1))), (9, .int (nI nh)), (4, .long (hoA I ko nl k (s.1, s.2.2) nh).1), (0, .ref 95), (2, .int (nI q)), (3, .int u), (6, .long (s.2.1 + 1))]) (j := 6) dM_hoped_103 rfl (by decide) rfl ?_
      refine a_goto (tgt := 38) dM_hoped_106 (by decide) ?_
      have e' : hoB I ko nh nl q s0 (k + 1) = ((hoA I ko nl k (s.1, s.2.2) nh).1, (s.2.1 + 1), ((hoA I ko nl k (s.1, s.2.2) nh).2)) := by
        show hoBS I ko nh nl q k (hoB I ko nh nl q s0 k) = _
        rw [es]
        unfold hoBS
        rw [if_pos (show (onesN (nI k) 10) = q by omega)]
      refine a_locs (lv' := [(8, .int (nI (k + 1))), (4, .long (hoA I ko nl k (s.1, s.2.2) nh).1), (6, .long (s.2.1 + 1)), (0, .ref 95), (2, .int (nI q)), (3, .int u)]) [0, 2, 6, 3, 4, 5] rfl ?_
      exact ih (k + 1) (by omega) ((hoA I ko nl k (s.1, s.2.2) nh).1, (s.2.1 + 1), ((hoA I ko nl k (s.1, s.2.2) nh).2)) e'
/-- of the first k sets, those of q letters -/
def cnN (q : Nat) : Nat → Nat
  | 0 => 0
  | k + 1 => if onesN (nI k) 10 = q then cnN q k + 1 else cnN q k
theorem cnN_le (q : Nat) : ∀ k, cnN q k ≤ k := by
  intro k
  induction k with
  | zero => exact Nat.le_refl _
  | succ k ih => unfold cnN; split <;> omega
theorem cnN_pos {q j : Nat} (hj : onesN (nI j) 10 = q) : ∀ k, j < k → 0 < cnN q k := by
  intro k
  induction k with
  | zero => intro h; omega
  | succ k ih =>
    intro h
    unfold cnN
    by_cases e : j = k
    · subst e; rw [if_pos hj]; omega
    · have := ih (by omega)
      split <;> omega
theorem ones_p : ∀ q, q ≤ 10 → onesN (nI (2 ^ q - 1)) 10 = q := by decide +kernel
theorem cnN_P {q nl P : Nat} (hP : 2 ^ nl = P) (hq : q ≤ nl) (hnl : nl ≤ 10) : 0 < cnN q P := by
  refine cnN_pos (ones_p q (by omega)) P ?_
  have h1 : 2 ^ q ≤ 2 ^ nl := Nat.pow_le_pow_right (by decide) hq
  have h2 : 0 < 2 ^ q := Nat.pow_pos (by decide)
  omega
theorem hoB_cn {I : mI} {ko nh nl q : Nat} {x : Int64} {lo : Int32} : ∀ k, (hoB I ko nh nl q (x, 0, lo) k).2.1 = lN (cnN q k) := by
  intro k
  induction k with
  | zero => rfl
  | succ k ih =>
    unfold hoB hoBS cnN
    by_cases h : onesN (nI k) 10 = q
    · rw [if_pos h, if_pos h]
      show (hoB I ko nh nl q (x, 0, lo) k).2.1 + 1 = _
      rw [ih, lN_1]
    · rw [if_neg h, if_neg h]
      exact ih
theorem hoA_le {I : mI} {ko nl t : Nat} {s0 : Int64 × Int32} : ∀ k, nA (hoA I ko nl t s0 k).1 ≤ nA s0.1 + k * 2 ^ 31 := by
  intro k
  induction k with
  | zero => unfold hoA; omega
  | succ k ih =>
    unfold hoA hoAS
    refine Nat.le_trans (nA_add _ _) (Nat.le_trans (Nat.add_le_add ih (nA_i _)) ?_)
    rw [Nat.succ_mul]
    exact Nat.le_of_eq (Nat.add_assoc _ _ _)
theorem hoB_le {I : mI} {ko nh nl q : Nat} (hnh : nh ≤ 6) {s0 : Int64 × Int64 × Int32} : ∀ k, nA (hoB I ko nh nl q s0 k).1 ≤ nA s0.1 + k * 12884901888 := by
  intro k
  induction k with
  | zero => unfold hoB; omega
  | succ k ih =>
    unfold hoB hoBS
    split
    · refine Nat.le_trans (hoA_le nh) (Nat.le_trans (Nat.add_le_add ih (show nh * 2 ^ 31 ≤ 12884901888 by omega)) ?_)
      rw [Nat.succ_mul]
      exact Nat.le_of_eq (Nat.add_assoc _ _ _)
    · exact Nat.le_trans ih (Nat.add_le_add_left (Nat.mul_le_mul_right _ (Nat.le_succ k)) _)
def hoR (I : mI) (ko nh nl q : Nat) (u : Int32) : Int64 := ptF (hoB I ko nh nl q (0, 0, I 95 39) (2 ^ nl)).1 (lN (cnN q (2 ^ nl))) u
theorem b_M_hoped {S : Nat × (Nat → Int32)} {d n : Nat} {I : mI} {J : mJ} {R : mR} {ko nh nl : Nat} (hn : 122 ≤ n) (hR : m_fin R) (ho : I 95 23 = nI ko) (hk : ko < 7) (hh : I 95 24 = nI nh) (hnh : nh ≤ 6) (hl : I 95 25 = nI nl) (hnl : nl ≤ 10) (hW : WFk I ko) {q : Nat} (hq : q ≤ nl) {u : Int32}  {Q : Option Value → mI → mJ → mR → Prop} (hQ : ∀ lo, Q (some (.long (hoR I ko nh nl q u))) (m_row I 95 (va_up (I 95) 39 lo)) J R) : AW S (d + 5) YM_hoped n n Q 29 [(0, .ref 95), (2, .int (nI q)), (3, .int u)] [] I J R n := by
  obtain ⟨P, hP⟩ : ∃ P, 2 ^ nl = P := ⟨_, rfl⟩
  have hP2 := P_le hP hnl
  have hc1 := cnN_P hP hq hnl
  have hc2 := cnN_le q P
  refine a_lconst (v := 0) dM_hoped_29 (by decide) ?_
  refine a_lstore (lv' := [(4, .long 0), (0, .ref 95), (2, .int (nI q)), (3, .int u)]) dM_hoped_30 (by decide) rfl ?_
  refine a_lconst (v := 0) dM_hoped_32 (by decide) ?_
  refine a_lstore (lv' := [(6, .long 0), (4, .long 0), (0, .ref 95), (2, .int (nI q)), (3, .int u)]) dM_hoped_33 (by decide) rfl ?_
  refine a_iconstN (a := 0) dM_hoped_35 (by decide) ?_
  refine a_istore (lv' := [(8, .int (nI 0)), (6, .long 0), (4, .long 0), (0, .ref 95), (2, .int (nI q)), (3, .int u)]) dM_hoped_36 (by decide) rfl ?_
  refine a_mem M39_self.symm ?_
  refine a_locs (lv' := [(8, .int (nI 0)), (4, .long 0), (6, .long 0), (0, .ref 95), (2, .int (nI q)), (3, .int u)]) [0, 2, 1, 3, 4, 5] rfl ?_
  refine l_hoB (s0 := (0, 0, I 95 39)) hn hR ho hk hh hnh hl hnl hW hP hP2 (q := q) hq (u := u) ?_ P 0 (by omega) _ rfl
  refine a_lload 1 dM_hoped_109 rfl ?_
  refine a_lload 2 dM_hoped_111 rfl ?_
  refine a_iload_n 5 dM_hoped_113 rfl rfl ?_
  refine a_callS (Q' := m_res (some (.long (ptF ((hoB I ko nh nl q (0, 0, I 95 39) P).1) (lN (cnN q P)) u))) (m_row I 95 (va_up (I 95) 39 ((hoB I ko nh nl q (0, 0, I 95 39) P).2.2))) J R) (as := [.long (hoB I ko nh nl q (0, 0, I 95 39) P).1, .long (hoB I ko nh nl q (0, 0, I 95 39) P).2.1, .int u]) (st := []) dM_hoped_114 ml12_381 rfl (Nat.le_of_ble_eq_true rfl) (Nat.le_of_ble_eq_true rfl) rfl (Nat.le_refl _) (Nat.le_refl _) (by rw [hoB_cn P]; exact c_M_part (by rw [nA_lN (by omega)]; omega) (by have h1 := hoB_le (I := I) (ko := ko) (nl := nl) (q := q) hnh (s0 := (0, 0, I 95 39)) P; have h2 : nA ((0 : Int64), (0 : Int64), I 95 39).1 = 0 := rfl; omega) (by rw [nA_lN (by omega)]; omega)) (m_go ?_)
  show AW _ _ _ _ _ _ _ _ [.long (ptF ((hoB I ko nh nl q (0, 0, I 95 39) P).1) (lN (cnN q P)) u)] _ _ _ _
  exact a_lret dM_hoped_117 rfl (by subst hP; exact hQ _)
