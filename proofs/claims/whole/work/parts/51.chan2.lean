theorem a_mem {S : Nat × (Nat → Int32)} {d : Nat} {Y : mY} {n0 nf : Nat} {Q : Option Value → mI → mJ → mR → Prop} {pc : Nat} {lv : List (Nat × Value)} {st : List Value} {I I' : mI} {J : mJ} {R : mR} {n : Nat} (e : I = I') (k : AW S d Y n0 nf Q pc lv st I' J R n) : AW S d Y n0 nf Q pc lv st I J R n := by
  rw [e]; exact k
theorem M39_self {I : mI} : m_row I 95 (va_up (I 95) 39 (I 95 39)) = I := by rw [va_ui, m_row_self]
theorem c_M_behindL {S : Nat × (Nat → Int32)} {d n : Nat} {I : mI} {J : mJ} {R : mR} {ko nl : Nat} (hn : 122 ≤ n) (hR : m_fin R) (ho : I 95 23 = nI ko) (hk : ko < 7) (hl : I 95 25 = nI nl) (hnl : nl ≤ 10) (hW : WFk I ko) {b0 : Int32} {h : Nat} (hh6 : h < 6) {lo : Int32} : RUN S (d + 4) YM_behind [.ref 95, .int (nI h), .int b0] (m_row I 95 (va_up (I 95) 39 lo)) J R n (some (.int (bhR I ko (oR I ko (3 + h)) b0 nl).1)) (m_row I 95 (va_up (I 95) 39 ((bhR I ko (oR I ko (3 + h)) b0 nl).2.2))) J R n := by
  have h := c_M_behind (S := S) (d := d) (n := n) (J := J) (R := R) (I := (m_row I 95 (va_up (I 95) 39 lo))) (ko := ko) (nl := nl) (b0 := b0) (h := h) hn hR ho hk hl hnl (WFk_row hW) hh6
  rw [show bhR (m_row I 95 (va_up (I 95) 39 lo)) ko = bhR I ko from by unfold bhR; rw [dsR_row (I := I) (f := va_up (I 95) 39 lo) rfl, oR_row]] at h
  rw [m_row_row, m_row_eq, va_uu] at h
  exact h
def spNS (I : mI) (ko nl h p N : Nat) (b0 mo : Int32) (k : Nat) (s : Int64 × Int32) : Int64 × Int32 := (if ((nI k) &&& (b0 ^^^ (-1))) = 0 then (if (bhR I ko (oR I ko (3 + h)) (nI k) nl).1 < mo then (s.1, ((bhR I ko (oR I ko (3 + h)) (nI k) nl).2.2)) else ((s.1 + ((pwN (10 - (Int32.toInt64 (nI p))) 1 (onesN (nI k) 10)) * (pwN (Int32.toInt64 (nI p)) 1 (N - (onesN (nI k) 10))))), ((bhR I ko (oR I ko (3 + h)) (nI k) nl).2.2))) else (s.1, s.2))
def spN (I : mI) (ko nl h p N : Nat) (b0 mo : Int32) (s0 : Int64 × Int32) : Nat → Int64 × Int32
  | 0 => s0
  | k + 1 => spNS I ko nl h p N b0 mo k (spN I ko nl h p N b0 mo s0 k)
theorem l_spN {S : Nat × (Nat → Int32)} {d n : Nat} {I : mI} {J : mJ} {R : mR} {ko nh nl : Nat} (hn : 122 ≤ n) (hR : m_fin R) (ho : I 95 23 = nI ko) (hk : ko < 7) (hh : I 95 24 = nI nh) (hnh : nh ≤ 6) (hl : I 95 25 = nI nl) (hnl : nl ≤ 10) (hW : WFk I ko) {h p N : Nat} (hh6 : h < nh) (hp : p ≤ 10) {b0 mo u : Int32} (hN : N = onesN b0 10)  {s0 : Int64 × Int32} {Q : Option Value → mI → mJ → mR → Prop}  (hx : AW S (d + 5) YM_spared n n Q 135 [(10, .int (nI 1024)), (8, .long (spN I ko nl h p N b0 mo s0 1024).1), (0, .ref 95), (2, .int (nI h)), (3, .int (nI p)), (4, .int mo), (5, .int u), (6, .int b0), (7, .int (nI N))] [] (m_row I 95 (va_up (I 95) 39 ((spN I ko nl h p N b0 mo s0 1024).2))) J R n) : ∀ m k, k + m = 1024 → ∀ s : Int64 × Int32, spN I ko nl h p N b0 mo s0 k = s → AW S (d + 5) YM_spared n n Q 66 [(10, .int (nI k)), (8, .long s.1), (0, .ref 95), (2, .int (nI h)), (3, .int (nI p)), (4, .int mo), (5, .int u), (6, .int b0), (7, .int (nI N))] [] (m_row I 95 (va_up (I 95) 39 s.2)) J R n := by
  intro m
  induction m with
  | zero =>
    intro k hk9 s es
    rw [show k = 1024 by omega] at es ⊢
    subst es
    refine a_iload 0 dM_spared_66 rfl ?_
    refine a_sipushN (a := 1024) dM_spared_68 (by decide) ?_
    refine a_icmp_geN (tgt := 135) dM_spared_71 (by decide) (by omega) (by omega) (fun _ => ?_) (fun c => False.elim (by omega))
    exact hx
  | succ m ih =>
    intro k hk9 s es
    have o1 := onesN_le (nI k) 10
    have o2 := onesN_le b0 10
    refine a_iload 0 dM_spared_66 rfl ?_
    refine a_sipushN (a := 1024) dM_spared_68 (by decide) ?_
    refine a_icmp_geN (tgt := 135) dM_spared_71 (by decide) (by omega) (by omega) (fun c => False.elim (by omega)) (fun _ => ?_)
    refine a_iload 0 dM_spared_74 rfl ?_
    refine a_iload 7 dM_spared_76 rfl ?_
    refine a_iconst (v := -1) dM_spared_78 (by decide) ?_
    refine a_ixor dM_spared_79 ?_
    refine a_iand dM_spared_80 ?_
    refine a_if_ne (tgt := 129) dM_spared_81 (by decide) (fun c81 => ?_) (fun c81 => ?_)
    · refine a_iincN (lv' := [(10, .int (nI (k + 1))), (8, .long s.1), (0, .ref 95), (2, .int (nI h)), (3, .int (nI p)), (4, .int mo), (5, .int u), (6, .int b0), (7, .int (nI N))]) (j := 0) dM_spared_129 rfl (by decide) rfl ?_
      refine a_goto (tgt := 66) dM_spared_132 (by decide) ?_
      have e' : spN I ko nl h p N b0 mo s0 (k + 1) = (s.1, s.2) := by
        show spNS I ko nl h p N b0 mo k (spN I ko nl h p N b0 mo s0 k) = _
        rw [es]
        unfold spNS
        rw [if_neg c81]
      exact ih (k + 1) (by omega) (s.1, s.2) e'
    · refine a_aload_n 2 dM_spared_84 rfl rfl ?_
      refine a_iload_n 3 dM_spared_85 rfl rfl ?_
      refine a_iload 0 dM_spared_86 rfl ?_
      refine a_callV (Q' := m_res (some (.int (bhR I ko (oR I ko (3 + h)) (nI k) nl).1)) (m_row I 95 (va_up (I 95) 39 ((bhR I ko (oR I ko (3 + h)) (nI k) nl).2.2))) J R) (as := [.int (nI h), .int (nI k)]) (st := []) dM_spared_88 ml12_390 rfl (Nat.le_of_ble_eq_true rfl) ly_95 rfl rfl (by decide) (by omega) (Nat.le_of_ble_eq_true rfl) rfl (Nat.le_refl _) (Nat.le_refl _) (c_M_behindL hn hR ho hk hl hnl hW (by omega)) (m_go ?_)
      show AW _ _ _ _ _ _ _ _ [.int (bhR I ko (oR I ko (3 + h)) (nI k) nl).1] _ _ _ _
      refine a_iload 5 dM_spared_91 rfl ?_
      refine a_icmp_lt (tgt := 129) dM_spared_93 (by decide) (fun c93 => ?_) (fun c93 => ?_)
      · refine a_iincN (lv' := [(10, .int (nI (k + 1))), (8, .long s.1), (0, .ref 95), (2, .int (nI h)), (3, .int (nI p)), (4, .int mo), (5, .int u), (6, .int b0), (7, .int (nI N))]) (j := 0) dM_spared_129 rfl (by decide) rfl ?_
        refine a_goto (tgt := 66) dM_spared_132 (by decide) ?_
        have e' : spN I ko nl h p N b0 mo s0 (k + 1) = (s.1, ((bhR I ko (oR I ko (3 + h)) (nI k) nl).2.2)) := by
          show spNS I ko nl h p N b0 mo k (spN I ko nl h p N b0 mo s0 k) = _
          rw [es]
          unfold spNS
          rw [if_pos c81, if_pos c93]
        exact ih (k + 1) (by omega) (s.1, ((bhR I ko (oR I ko (3 + h)) (nI k) nl).2.2)) e'
      · refine a_lload 1 dM_spared_96 rfl ?_
        refine a_ldc2 (v := 10) dM_spared_98 cn12_393 ?_
        refine a_iload_n 4 dM_spared_101 rfl rfl ?_
        refine a_i2l dM_spared_102 ?_
        refine a_lsub dM_spared_103 ?_
        refine a_iload 0 dM_spared_104 rfl ?_
        refine a_callS (Q' := m_res (some (.int (nI (onesN (nI k) 10)))) (m_row I 95 (va_up (I 95) 39 ((bhR I ko (oR I ko (3 + h)) (nI k) nl).2.2))) J R) (as := [.int (nI k)]) (st := [.long (10 - (Int32.toInt64 (nI p))), .long s.1]) dM_spared_106 ml12_369 rfl (Nat.le_of_ble_eq_true rfl) (Nat.le_of_ble_eq_true rfl) rfl (Nat.le_refl _) (Nat.le_refl _) c_M_ones (m_go ?_)
        show AW _ _ _ _ _ _ _ _ [.int (nI (onesN (nI k) 10)), .long (10 - (Int32.toInt64 (nI p))), .long s.1] _ _ _ _
        refine a_callS (Q' := m_res (some (.long (pwN (10 - (Int32.toInt64 (nI p))) 1 (onesN (nI k) 10)))) (m_row I 95 (va_up (I 95) 39 ((bhR I ko (oR I ko (3 + h)) (nI k) nl).2.2))) J R) (as := [.long (10 - (Int32.toInt64 (nI p))), .int (nI (onesN (nI k) 10))]) (st := [.long s.1]) dM_spared_109 ml12_395 rfl (Nat.le_of_ble_eq_true rfl) (Nat.le_of_ble_eq_true rfl) rfl (Nat.le_refl _) (Nat.le_refl _) (c_M_power (by omega)) (m_go ?_)
        show AW _ _ _ _ _ _ _ _ [.long (pwN (10 - (Int32.toInt64 (nI p))) 1 (onesN (nI k) 10)), .long s.1] _ _ _ _
        refine a_iload_n 4 dM_spared_112 rfl rfl ?_
        refine a_i2l dM_spared_113 ?_
        refine a_iload 8 dM_spared_114 rfl ?_
        refine a_iload 0 dM_spared_116 rfl ?_
        refine a_callS (Q' := m_res (some (.int (nI (onesN (nI k) 10)))) (m_row I 95 (va_up (I 95) 39 ((bhR I ko (oR I ko (3 + h)) (nI k) nl).2.2))) J R) (as := [.int (nI k)]) (st := [.int (nI N), .long (Int32.toInt64 (nI p)), .long (pwN (10 - (Int32.toInt64 (nI p))) 1 (onesN (nI k) 10)), .long s.1]) dM_spared_118 ml12_369 rfl (Nat.le_of_ble_eq_true rfl) (Nat.le_of_ble_eq_true rfl) rfl (Nat.le_refl _) (Nat.le_refl _) c_M_ones (m_go ?_)
        show AW _ _ _ _ _ _ _ _ [.int (nI (onesN (nI k) 10)), .int (nI N), .long (Int32.toInt64 (nI p)), .long (pwN (10 - (Int32.toInt64 (nI p))) 1 (onesN (nI k) 10)), .long s.1] _ _ _ _
        refine a_isubN dM_spared_121 (by have := ones_sub c81; omega) ?_
        refine a_callS (Q' := m_res (some (.long (pwN (Int32.toInt64 (nI p)) 1 (N - (onesN (nI k) 10))))) (m_row I 95 (va_up (I 95) 39 ((bhR I ko (oR I ko (3 + h)) (nI k) nl).2.2))) J R) (as := [.long (Int32.toInt64 (nI p)), .int (nI (N - (onesN (nI k) 10)))]) (st := [.long (pwN (10 - (Int32.toInt64 (nI p))) 1 (onesN (nI k) 10)), .long s.1]) dM_spared_122 ml12_395 rfl (Nat.le_of_ble_eq_true rfl) (Nat.le_of_ble_eq_true rfl) rfl (Nat.le_refl _) (Nat.le_refl _) (c_M_power (by omega)) (m_go ?_)
        show AW _ _ _ _ _ _ _ _ [.long (pwN (Int32.toInt64 (nI p)) 1 (N - (onesN (nI k) 10))), .long (pwN (10 - (Int32.toInt64 (nI p))) 1 (onesN (nI k) 10)), .long s.1] _ _ _ _
        refine a_lmul dM_spared_125 ?_
        refine a_ladd dM_spared_126 ?_
        refine a_lstore (lv' := [(8, .long (s.1 + ((pwN (10 - (Int32.toInt64 (nI p))) 1 (onesN (nI k) 10)) * (pwN (Int32.toInt64 (nI p)) 1 (N - (onesN (nI k) 10)))))), (10, .int (nI k)), (0, .ref 95), (2, .int (nI h)), (3, .int (nI p)), (4, .int mo), (5, .int u), (6, .int b0), (7, .int (nI N))]) dM_spared_127 (by decide) rfl ?_
        refine a_iincN (lv' := [(10, .int (nI (k + 1))), (8, .long (s.1 + ((pwN (10 - (Int32.toInt64 (nI p))) 1 (onesN (nI k) 10)) * (pwN (Int32.toInt64 (nI p)) 1 (N - (onesN (nI k) 10)))))), (0, .ref 95), (2, .int (nI h)), (3, .int (nI p)), (4, .int mo), (5, .int u), (6, .int b0), (7, .int (nI N))]) (j := 1) dM_spared_129 rfl (by decide) rfl ?_
        refine a_goto (tgt := 66) dM_spared_132 (by decide) ?_
        have e' : spN I ko nl h p N b0 mo s0 (k + 1) = ((s.1 + ((pwN (10 - (Int32.toInt64 (nI p))) 1 (onesN (nI k) 10)) * (pwN (Int32.toInt64 (nI p)) 1 (N - (onesN (nI k) 10))))), ((bhR I ko (oR I ko (3 + h)) (nI k) nl).2.2)) := by
          show spNS I ko nl h p N b0 mo k (spN I ko nl h p N b0 mo s0 k) = _
          rw [es]
          unfold spNS
          rw [if_pos c81, if_neg c93]
        exact ih (k + 1) (by omega) ((s.1 + ((pwN (10 - (Int32.toInt64 (nI p))) 1 (onesN (nI k) 10)) * (pwN (Int32.toInt64 (nI p)) 1 (N - (onesN (nI k) 10))))), ((bhR I ko (oR I ko (3 + h)) (nI k) nl).2.2)) e'
def spR (I : mI) (ko nl h p : Nat) (mo u : Int32) : Int64 := ptF (spN I ko nl h p (onesN (lsR I h nl) 10) (lsR I h nl) mo (0, I 95 39) 1024).1 (pwN 10 1 (onesN (lsR I h nl) 10)) u
theorem nA_1 : nA 1 = 1 := rfl
theorem pwN_s {x : Int64} {k : Nat} : pwN x 1 (k + 1) = pwN x 1 k * x := rfl
theorem pw10 : ∀ k, k ≤ 10 → nA (pwN 10 1 k) = 10 ^ k := by decide +kernel
theorem pwN_le {x : Int64} {b : Nat} (h : nA x ≤ b) : ∀ k, nA (pwN x 1 k) ≤ b ^ k := by
  intro k
  induction k with
  | zero => exact Nat.le_refl _
  | succ k ih =>
    rw [pwN_s, Nat.pow_succ]
    exact Nat.le_trans (nA_mul _ _) (Nat.mul_le_mul ih h)
theorem pwp {p : Nat} (hp : p ≤ 10) : nA (nI p).toInt64 ≤ 10 ∧ nA (10 - (nI p).toInt64) ≤ 10 := (show ∀ p, p ≤ 10 → nA (nI p).toInt64 ≤ 10 ∧ nA (10 - (nI p).toInt64) ≤ 10 by decide +kernel) p hp
theorem pow_le {k N : Nat} (h : k ≤ N) (hN : N ≤ 10) : 10 ^ k * 10 ^ (N - k) ≤ 10 ^ 10 := by
  rw [← Nat.pow_add]
  exact Nat.pow_le_pow_right (by decide) (by omega)
theorem spN_le {I : mI} {ko nl h p : Nat} (hp : p ≤ 10) {b0 mo : Int32} {s0 : Int64 × Int32} : ∀ k, nA (spN I ko nl h p (onesN b0 10) b0 mo s0 k).1 ≤ nA s0.1 + k * 10 ^ 10 := by
  intro k
  induction k with
  | zero => unfold spN; omega
  | succ k ih =>
    have hs : nA (spN I ko nl h p (onesN b0 10) b0 mo s0 k).1 ≤ nA s0.1 + (k + 1) * 10 ^ 10 := Nat.le_trans ih (Nat.add_le_add_left (Nat.mul_le_mul_right _ (Nat.le_succ k)) _)
    unfold spN spNS
    split
    · rename_i hc
      split
      · exact hs
      · have h1 := pwN_le (pwp hp).2 (onesN (nI k) 10)
        have h2 := pwN_le (pwp hp).1 (onesN b0 10 - onesN (nI k) 10)
        have h3 := pow_le (ones_sub hc) (onesN_le b0 10)
        refine Nat.le_trans (nA_add _ _) (Nat.le_trans (Nat.add_le_add ih (Nat.le_trans (nA_mul _ _) (Nat.le_trans (Nat.mul_le_mul h1 h2) h3))) ?_)
        rw [Nat.succ_mul]
        exact Nat.le_of_eq (Nat.add_assoc _ _ _)
    · exact hs
theorem b_M_spared {S : Nat × (Nat → Int32)} {d n : Nat} {I : mI} {J : mJ} {R : mR} {ko nh nl : Nat} (hn : 122 ≤ n) (hR : m_fin R) (ho : I 95 23 = nI ko) (hk : ko < 7) (hh : I 95 24 = nI nh) (hnh : nh ≤ 6) (hl : I 95 25 = nI nl) (hnl : nl ≤ 10) (hW : WFk I ko) {h p : Nat} (hh6 : h < nh) (hp : p ≤ 10) {mo u : Int32}  {Q : Option Value → mI → mJ → mR → Prop} (hQ : ∀ lo, Q (some (.long (spR I ko nl h p mo u))) (m_row I 95 (va_up (I 95) 39 lo)) J R) : AW S (d + 5) YM_spared n n Q 46 [(0, .ref 95), (2, .int (nI h)), (3, .int (nI p)), (4, .int mo), (5, .int u)] [] I J R n := by
  have ho10 := onesN_le (ltsN (I 106) (nI h) nl) 10
  refine a_aload_n 0 dM_spared_46 rfl rfl ?_
  refine a_iload_n 1 dM_spared_47 rfl rfl ?_
  refine a_callV (Q' := m_res (some (.int (ltsN (I 106) (nI h) nl))) I J R) (as := [.int (nI h)]) (st := []) dM_spared_48 ml12_362 rfl (Nat.le_of_ble_eq_true rfl) ly_95 rfl rfl (by decide) (by omega) (Nat.le_of_ble_eq_true rfl) rfl (Nat.le_refl _) (Nat.le_refl _) (c_M_lettersOf (nl := nl) hn hR hl hnl) (m_go ?_)
  show AW _ _ _ _ _ _ _ _ [.int (ltsN (I 106) (nI h) nl)] _ _ _ _
  refine a_istore (lv' := [(6, .int (ltsN (I 106) (nI h) nl)), (0, .ref 95), (2, .int (nI h)), (3, .int (nI p)), (4, .int mo), (5, .int u)]) dM_spared_51 (by decide) rfl ?_
  refine a_iload 0 dM_spared_53 rfl ?_
  refine a_callS (Q' := m_res (some (.int (nI (onesN (ltsN (I 106) (nI h) nl) 10)))) I J R) (as := [.int (ltsN (I 106) (nI h) nl)]) (st := []) dM_spared_55 ml12_369 rfl (Nat.le_of_ble_eq_true rfl) (Nat.le_of_ble_eq_true rfl) rfl (Nat.le_refl _) (Nat.le_refl _) c_M_ones (m_go ?_)
  show AW _ _ _ _ _ _ _ _ [.int (nI (onesN (ltsN (I 106) (nI h) nl) 10))] _ _ _ _
  refine a_istore (lv' := [(7, .int (nI (onesN (ltsN (I 106) (nI h) nl) 10))), (6, .int (ltsN (I 106) (nI h) nl)), (0, .ref 95), (2, .int (nI h)), (3, .int (nI p)), (4, .int mo), (5, .int u)]) dM_spared_58 (by decide) rfl ?_
  refine a_lconst (v := 0) dM_spared_60 (by decide) ?_
  refine a_lstore (lv' := [(8, .long 0), (7, .int (nI (onesN (ltsN (I 106) (nI h) nl) 10))), (6, .int (ltsN (I 106) (nI h) nl)), (0, .ref 95), (2, .int (nI h)), (3, .int (nI p)), (4, .int mo), (5, .int u)]) dM_spared_61 (by decide) rfl ?_
  refine a_iconstN (a := 0) dM_spared_63 (by decide) ?_
  refine a_istore (lv' := [(10, .int (nI 0)), (8, .long 0), (7, .int (nI (onesN (ltsN (I 106) (nI h) nl) 10))), (6, .int (ltsN (I 106) (nI h) nl)), (0, .ref 95), (2, .int (nI h)), (3, .int (nI p)), (4, .int mo), (5, .int u)]) dM_spared_64 (by decide) rfl ?_
  refine a_mem M39_self.symm ?_
  refine a_locs (lv' := [(10, .int (nI 0)), (8, .long 0), (0, .ref 95), (2, .int (nI h)), (3, .int (nI p)), (4, .int mo), (5, .int u), (6, .int (ltsN (I 106) (nI h) nl)), (7, .int (nI (onesN (ltsN (I 106) (nI h) nl) 10)))]) [0, 1, 4, 5, 6, 7, 8, 3, 2] rfl ?_
  refine l_spN (s0 := (0, I 95 39)) hn hR ho hk hh hnh hl hnl hW (h := h) (p := p) hh6 hp (b0 := (ltsN (I 106) (nI h) nl)) (mo := mo) (u := u) rfl ?_ 1024 0 (by omega) _ rfl
  refine a_lload 1 dM_spared_135 rfl ?_
  refine a_ldc2 (v := 10) dM_spared_137 cn12_393 ?_
  refine a_iload 8 dM_spared_140 rfl ?_
  refine a_callS (Q' := m_res (some (.long (pwN 10 1 (onesN (ltsN (I 106) (nI h) nl) 10)))) (m_row I 95 (va_up (I 95) 39 ((spN I ko nl h p (onesN (ltsN (I 106) (nI h) nl) 10) (ltsN (I 106) (nI h) nl) mo (0, I 95 39) 1024).2))) J R) (as := [.long 10, .int (nI (onesN (ltsN (I 106) (nI h) nl) 10))]) (st := [.long (spN I ko nl h p (onesN (ltsN (I 106) (nI h) nl) 10) (ltsN (I 106) (nI h) nl) mo (0, I 95 39) 1024).1]) dM_spared_142 ml12_395 rfl (Nat.le_of_ble_eq_true rfl) (Nat.le_of_ble_eq_true rfl) rfl (Nat.le_refl _) (Nat.le_refl _) (c_M_power (by omega)) (m_go ?_)
  show AW _ _ _ _ _ _ _ _ [.long (pwN 10 1 (onesN (ltsN (I 106) (nI h) nl) 10)), .long (spN I ko nl h p (onesN (ltsN (I 106) (nI h) nl) 10) (ltsN (I 106) (nI h) nl) mo (0, I 95 39) 1024).1] _ _ _ _
  refine a_iload 6 dM_spared_145 rfl ?_
  refine a_callS (Q' := m_res (some (.long (ptF ((spN I ko nl h p (onesN (ltsN (I 106) (nI h) nl) 10) (ltsN (I 106) (nI h) nl) mo (0, I 95 39) 1024).1) (pwN 10 1 (onesN (ltsN (I 106) (nI h) nl) 10)) u))) (m_row I 95 (va_up (I 95) 39 ((spN I ko nl h p (onesN (ltsN (I 106) (nI h) nl) 10) (ltsN (I 106) (nI h) nl) mo (0, I 95 39) 1024).2))) J R) (as := [.long (spN I ko nl h p (onesN (ltsN (I 106) (nI h) nl) 10) (ltsN (I 106) (nI h) nl) mo (0, I 95 39) 1024).1, .long (pwN 10 1 (onesN (ltsN (I 106) (nI h) nl) 10)), .int u]) (st := []) dM_spared_147 ml12_381 rfl (Nat.le_of_ble_eq_true rfl) (Nat.le_of_ble_eq_true rfl) rfl (Nat.le_refl _) (Nat.le_refl _) (c_M_part (by rw [pw10 _ (by omega)]; exact Nat.lt_of_le_of_lt (Nat.pow_le_pow_right (by decide) ho10) (by decide)) (by have h1 := spN_le (I := I) (ko := ko) (nl := nl) (h := h) hp (b0 := (ltsN (I 106) (nI h) nl)) (mo := mo) (s0 := (0, I 95 39)) 1024; exact Nat.lt_of_le_of_lt h1 (show nA 0 + 1024 * 10 ^ 10 < 2 ^ 63 by rw [nA_0]; decide)) (by rw [pw10 _ (by omega)]; exact Nat.pos_of_ne_zero (by apply Nat.ne_of_gt; exact Nat.pow_pos (by decide)))) (m_go ?_)
  show AW _ _ _ _ _ _ _ _ [.long (ptF ((spN I ko nl h p (onesN (ltsN (I 106) (nI h) nl) 10) (ltsN (I 106) (nI h) nl) mo (0, I 95 39) 1024).1) (pwN 10 1 (onesN (ltsN (I 106) (nI h) nl) 10)) u)] _ _ _ _
  exact a_lret dM_spared_150 rfl (hQ _)
def clNS (I : mI) (ko nl h : Nat) (b0 mo : Int32) (k : Nat) (s : Int32 × Int32) : Int32 × Int32 := (if ((nI k) &&& (b0 ^^^ (-1))) = 0 then (if s.1 = (-1) then (if ((bhR I ko (oR I ko (3 + h)) (b0 &&& ((nI k) ^^^ (-1))) nl).2.2) < mo then (s.1, ((bhR I ko (oR I ko (3 + h)) (b0 &&& ((nI k) ^^^ (-1))) nl).2.2)) else ((nI k), ((bhR I ko (oR I ko (3 + h)) (b0 &&& ((nI k) ^^^ (-1))) nl).2.2))) else (if (onesN s.1 10) ≤ (onesN (nI k) 10) then (s.1, s.2) else (if ((bhR I ko (oR I ko (3 + h)) (b0 &&& ((nI k) ^^^ (-1))) nl).2.2) < mo then (s.1, ((bhR I ko (oR I ko (3 + h)) (b0 &&& ((nI k) ^^^ (-1))) nl).2.2)) else ((nI k), ((bhR I ko (oR I ko (3 + h)) (b0 &&& ((nI k) ^^^ (-1))) nl).2.2))))) else (s.1, s.2))
def clN (I : mI) (ko nl h : Nat) (b0 mo : Int32) (s0 : Int32 × Int32) : Nat → Int32 × Int32
  | 0 => s0
  | k + 1 => clNS I ko nl h b0 mo k (clN I ko nl h b0 mo s0 k)
theorem l_clN {S : Nat × (Nat → Int32)} {d n : Nat} {I : mI} {J : mJ} {R : mR} {ko nh nl : Nat} (hn : 122 ≤ n) (hR : m_fin R) (ho : I 95 23 = nI ko) (hk : ko < 7) (hh : I 95 24 = nI nh) (hnh : nh ≤ 6) (hl : I 95 25 = nI nl) (hnl : nl ≤ 10) (hW : WFk I ko) {h : Nat} (hh6 : h < nh) {b0 mo u : Int32}  {s0 : Int32 × Int32} {Q : Option Value → mI → mJ → mR → Prop}  (hx : AW S (d + 5) YM_calm n n Q 119 [(7, .int (nI 1024)), (6, .int (clN I ko nl h b0 mo s0 1024).1), (0, .ref 95), (2, .int (nI h)), (3, .int mo), (4, .int u), (5, .int b0)] [] (m_row I 95 (va_up (I 95) 39 ((clN I ko nl h b0 mo s0 1024).2))) J R n) : ∀ m k, k + m = 1024 → ∀ s : Int32 × Int32, clN I ko nl h b0 mo s0 k = s → AW S (d + 5) YM_calm n n Q 46 [(7, .int (nI k)), (6, .int s.1), (0, .ref 95), (2, .int (nI h)), (3, .int mo), (4, .int u), (5, .int b0)] [] (m_row I 95 (va_up (I 95) 39 s.2)) J R n := by
  intro m
  induction m with
  | zero =>
    intro k hk9 s es
    rw [show k = 1024 by omega] at es ⊢
    subst es
    refine a_iload 0 dM_calm_46 rfl ?_
    refine a_sipushN (a := 1024) dM_calm_48 (by decide) ?_
    refine a_icmp_geN (tgt := 119) dM_calm_51 (by decide) (by omega) (by omega) (fun _ => ?_) (fun c => False.elim (by omega))
    exact hx
  | succ m ih =>
    intro k hk9 s es
    have o1 := onesN_le (nI k) 10
    have o2 := onesN_le s.1 10
    refine a_iload 0 dM_calm_46 rfl ?_
    refine a_sipushN (a := 1024) dM_calm_48 (by decide) ?_
    refine a_icmp_geN (tgt := 119) dM_calm_51 (by decide) (by omega) (by omega) (fun c => False.elim (by omega)) (fun _ => ?_)
    refine a_iload 0 dM_calm_54 rfl ?_
    refine a_iload 6 dM_calm_56 rfl ?_
    refine a_iconst (v := -1) dM_calm_58 (by decide) ?_
    refine a_ixor dM_calm_59 ?_
    refine a_iand dM_calm_60 ?_
    refine a_if_ne (tgt := 113) dM_calm_61 (by decide) (fun c61 => ?_) (fun c61 => ?_)
    · refine a_iincN (lv' := [(7, .int (nI (k + 1))), (6, .int s.1), (0, .ref 95), (2, .int (nI h)), (3, .int mo), (4, .int u), (5, .int b0)]) (j := 0) dM_calm_113 rfl (by decide) rfl ?_
      refine a_goto (tgt := 46) dM_calm_116 (by decide) ?_
      have e' : clN I ko nl h b0 mo s0 (k + 1) = (s.1, s.2) := by
        show clNS I ko nl h b0 mo k (clN I ko nl h b0 mo s0 k) = _
        rw [es]
        unfold clNS
        rw [if_neg c61]
      exact ih (k + 1) (by omega) (s.1, s.2) e'
    · refine a_iload 1 dM_calm_64 rfl ?_
      refine a_iconst (v := -1) dM_calm_66 (by decide) ?_
      refine a_icmp_eq (tgt := 83) dM_calm_67 (by decide) (fun c67 => ?_) (fun c67 => ?_)
      · refine a_aload_n 2 dM_calm_83 rfl rfl ?_
        refine a_iload_n 3 dM_calm_84 rfl rfl ?_
        refine a_iload 6 dM_calm_85 rfl ?_
        refine a_iload 0 dM_calm_87 rfl ?_
        refine a_iconst (v := -1) dM_calm_89 (by decide) ?_
        refine a_ixor dM_calm_90 ?_
        refine a_iand dM_calm_91 ?_
        refine a_callV (Q' := m_res (some (.int (bhR I ko (oR I ko (3 + h)) (b0 &&& ((nI k) ^^^ (-1))) nl).1)) (m_row I 95 (va_up (I 95) 39 ((bhR I ko (oR I ko (3 + h)) (b0 &&& ((nI k) ^^^ (-1))) nl).2.2))) J R) (as := [.int (nI h), .int (b0 &&& ((nI k) ^^^ (-1)))]) (st := []) dM_calm_92 ml12_390 rfl (Nat.le_of_ble_eq_true rfl) ly_95 rfl rfl (by decide) (by omega) (Nat.le_of_ble_eq_true rfl) rfl (Nat.le_refl _) (Nat.le_refl _) (c_M_behindL hn hR ho hk hl hnl hW (by omega)) (m_go ?_)
        show AW _ _ _ _ _ _ _ _ [.int (bhR I ko (oR I ko (3 + h)) (b0 &&& ((nI k) ^^^ (-1))) nl).1] _ _ _ _
        refine a_pop dM_calm_95 rfl ?_
        refine a_aload_n 2 dM_calm_96 rfl rfl ?_
        refine a_geti dM_calm_97 fl12_385 rfl ly_95 (by omega) ?_
        rw [show (m_row I 95 (va_up (I 95) 39 ((bhR I ko (oR I ko (3 + h)) (b0 &&& ((nI k) ^^^ (-1))) nl).2.2))) 95 39 = ((bhR I ko (oR I ko (3 + h)) (b0 &&& ((nI k) ^^^ (-1))) nl).2.2) from rfl]
        refine a_iload_n 4 dM_calm_100 rfl rfl ?_
        refine a_icmp_lt (tgt := 109) dM_calm_101 (by decide) (fun c101 => ?_) (fun c101 => ?_)
        · refine a_iload 1 dM_calm_109 rfl ?_
          refine a_istore (lv' := [(6, .int s.1), (7, .int (nI k)), (0, .ref 95), (2, .int (nI h)), (3, .int mo), (4, .int u), (5, .int b0)]) dM_calm_111 (by decide) rfl ?_
          refine a_iincN (lv' := [(7, .int (nI (k + 1))), (6, .int s.1), (0, .ref 95), (2, .int (nI h)), (3, .int mo), (4, .int u), (5, .int b0)]) (j := 1) dM_calm_113 rfl (by decide) rfl ?_
          refine a_goto (tgt := 46) dM_calm_116 (by decide) ?_
          have e' : clN I ko nl h b0 mo s0 (k + 1) = (s.1, ((bhR I ko (oR I ko (3 + h)) (b0 &&& ((nI k) ^^^ (-1))) nl).2.2)) := by
            show clNS I ko nl h b0 mo k (clN I ko nl h b0 mo s0 k) = _
            rw [es]
            unfold clNS
            rw [if_pos c61, if_pos c67, if_pos c101]
          exact ih (k + 1) (by omega) (s.1, ((bhR I ko (oR I ko (3 + h)) (b0 &&& ((nI k) ^^^ (-1))) nl).2.2)) e'
        · refine a_iload 0 dM_calm_104 rfl ?_
          refine a_goto (tgt := 111) dM_calm_106 (by decide) ?_
          refine a_istore (lv' := [(6, .int (nI k)), (7, .int (nI k)), (0, .ref 95), (2, .int (nI h)), (3, .int mo), (4, .int u), (5, .int b0)]) dM_calm_111 (by decide) rfl ?_
          refine a_iincN (lv' := [(7, .int (nI (k + 1))), (6, .int (nI k)), (0, .ref 95), (2, .int (nI h)), (3, .int mo), (4, .int u), (5, .int b0)]) (j := 1) dM_calm_113 rfl (by decide) rfl ?_
          refine a_goto (tgt := 46) dM_calm_116 (by decide) ?_
          have e' : clN I ko nl h b0 mo s0 (k + 1) = ((nI k), ((bhR I ko (oR I ko (3 + h)) (b0 &&& ((nI k) ^^^ (-1))) nl).2.2)) := by
            show clNS I ko nl h b0 mo k (clN I ko nl h b0 mo s0 k) = _
            rw [es]
            unfold clNS
            rw [if_pos c61, if_pos c67, if_neg c101]
          exact ih (k + 1) (by omega) ((nI k), ((bhR I ko (oR I ko (3 + h)) (b0 &&& ((nI k) ^^^ (-1))) nl).2.2)) e'
      · refine a_iload 0 dM_calm_70 rfl ?_
        refine a_callS (Q' := m_res (some (.int (nI (onesN (nI k) 10)))) (m_row I 95 (va_up (I 95) 39 s.2)) J R) (as := [.int (nI k)]) (st := []) dM_calm_72 ml12_369 rfl (Nat.le_of_ble_eq_true rfl) (Nat.le_of_ble_eq_true rfl) rfl (Nat.le_refl _) (Nat.le_refl _) c_M_ones (m_go ?_)
        show AW _ _ _ _ _ _ _ _ [.int (nI (onesN (nI k) 10))] _ _ _ _
        refine a_iload 1 dM_calm_75 rfl ?_
        refine a_callS (Q' := m_res (some (.int (nI (onesN s.1 10)))) (m_row I 95 (va_up (I 95) 39 s.2)) J R) (as := [.int s.1]) (st := [.int (nI (onesN (nI k) 10))]) dM_calm_77 ml12_369 rfl (Nat.le_of_ble_eq_true rfl) (Nat.le_of_ble_eq_true rfl) rfl (Nat.le_refl _) (Nat.le_refl _) c_M_ones (m_go ?_)
        show AW _ _ _ _ _ _ _ _ [.int (nI (onesN s.1 10)), .int (nI (onesN (nI k) 10))] _ _ _ _
        refine a_icmp_geN (tgt := 113) dM_calm_80 (by decide) (by omega) (by omega) (fun c80 => ?_) (fun c80 => ?_)
        · refine a_iincN (lv' := [(7, .int (nI (k + 1))), (6, .int s.1), (0, .ref 95), (2, .int (nI h)), (3, .int mo), (4, .int u), (5, .int b0)]) (j := 0) dM_calm_113 rfl (by decide) rfl ?_
          refine a_goto (tgt := 46) dM_calm_116 (by decide) ?_
          have e' : clN I ko nl h b0 mo s0 (k + 1) = (s.1, s.2) := by
            show clNS I ko nl h b0 mo k (clN I ko nl h b0 mo s0 k) = _
            rw [es]
            unfold clNS
            rw [if_pos c61, if_neg c67, if_pos (show (onesN s.1 10) ≤ (onesN (nI k) 10) by omega)]
          exact ih (k + 1) (by omega) (s.1, s.2) e'
        · refine a_aload_n 2 dM_calm_83 rfl rfl ?_
          refine a_iload_n 3 dM_calm_84 rfl rfl ?_
          refine a_iload 6 dM_calm_85 rfl ?_
          refine a_iload 0 dM_calm_87 rfl ?_
          refine a_iconst (v := -1) dM_calm_89 (by decide) ?_
          refine a_ixor dM_calm_90 ?_
          refine a_iand dM_calm_91 ?_
          refine a_callV (Q' := m_res (some (.int (bhR I ko (oR I ko (3 + h)) (b0 &&& ((nI k) ^^^ (-1))) nl).1)) (m_row I 95 (va_up (I 95) 39 ((bhR I ko (oR I ko (3 + h)) (b0 &&& ((nI k) ^^^ (-1))) nl).2.2))) J R) (as := [.int (nI h), .int (b0 &&& ((nI k) ^^^ (-1)))]) (st := []) dM_calm_92 ml12_390 rfl (Nat.le_of_ble_eq_true rfl) ly_95 rfl rfl (by decide) (by omega) (Nat.le_of_ble_eq_true rfl) rfl (Nat.le_refl _) (Nat.le_refl _) (c_M_behindL hn hR ho hk hl hnl hW (by omega)) (m_go ?_)
          show AW _ _ _ _ _ _ _ _ [.int (bhR I ko (oR I ko (3 + h)) (b0 &&& ((nI k) ^^^ (-1))) nl).1] _ _ _ _
          refine a_pop dM_calm_95 rfl ?_
          refine a_aload_n 2 dM_calm_96 rfl rfl ?_
          refine a_geti dM_calm_97 fl12_385 rfl ly_95 (by omega) ?_
          rw [show (m_row I 95 (va_up (I 95) 39 ((bhR I ko (oR I ko (3 + h)) (b0 &&& ((nI k) ^^^ (-1))) nl).2.2))) 95 39 = ((bhR I ko (oR I ko (3 + h)) (b0 &&& ((nI k) ^^^ (-1))) nl).2.2) from rfl]
          refine a_iload_n 4 dM_calm_100 rfl rfl ?_
          refine a_icmp_lt (tgt := 109) dM_calm_101 (by decide) (fun c101 => ?_) (fun c101 => ?_)
          · refine a_iload 1 dM_calm_109 rfl ?_
            refine a_istore (lv' := [(6, .int s.1), (7, .int (nI k)), (0, .ref 95), (2, .int (nI h)), (3, .int mo), (4, .int u), (5, .int b0)]) dM_calm_111 (by decide) rfl ?_
            refine a_iincN (lv' := [(7, .int (nI (k + 1))), (6, .int s.1), (0, .ref 95), (2, .int (nI h)), (3, .int mo), (4, .int u), (5, .int b0)]) (j := 1) dM_calm_113 rfl (by decide) rfl ?_
            refine a_goto (tgt := 46) dM_calm_116 (by decide) ?_
            have e' : clN I ko nl h b0 mo s0 (k + 1) = (s.1, ((bhR I ko (oR I ko (3 + h)) (b0 &&& ((nI k) ^^^ (-1))) nl).2.2)) := by
              show clNS I ko nl h b0 mo k (clN I ko nl h b0 mo s0 k) = _
              rw [es]
              unfold clNS
              rw [if_pos c61, if_neg c67, if_neg (show ¬ ((onesN s.1 10) ≤ (onesN (nI k) 10)) by omega), if_pos c101]
            exact ih (k + 1) (by omega) (s.1, ((bhR I ko (oR I ko (3 + h)) (b0 &&& ((nI k) ^^^ (-1))) nl).2.2)) e'
          · refine a_iload 0 dM_calm_104 rfl ?_
            refine a_goto (tgt := 111) dM_calm_106 (by decide) ?_
            refine a_istore (lv' := [(6, .int (nI k)), (7, .int (nI k)), (0, .ref 95), (2, .int (nI h)), (3, .int mo), (4, .int u), (5, .int b0)]) dM_calm_111 (by decide) rfl ?_
            refine a_iincN (lv' := [(7, .int (nI (k + 1))), (6, .int (nI k)), (0, .ref 95), (2, .int (nI h)), (3, .int mo), (4, .int u), (5, .int b0)]) (j := 1) dM_calm_113 rfl (by decide) rfl ?_
            refine a_goto (tgt := 46) dM_calm_116 (by decide) ?_
            have e' : clN I ko nl h b0 mo s0 (k + 1) = ((nI k), ((bhR I ko (oR I ko (3 + h)) (b0 &&& ((nI k) ^^^ (-1))) nl).2.2)) := by
              show clNS I ko nl h b0 mo k (clN I ko nl h b0 mo s0 k) = _
              rw [es]
              unfold clNS
              rw [if_pos c61, if_neg c67, if_neg (show ¬ ((onesN s.1 10) ≤ (onesN (nI k) 10)) by omega), if_neg c101]
            exact ih (k + 1) (by omega) ((nI k), ((bhR I ko (oR I ko (3 + h)) (b0 &&& ((nI k) ^^^ (-1))) nl).2.2)) e'
def clR (I : mI) (ko nl h : Nat) (mo u : Int32) : Int32 := if ¬ u = 0 ∨ (clN I ko nl h (lsR I h nl) mo (-1, I 95 39) 1024).1 = -1 then (clN I ko nl h (lsR I h nl) mo (-1, I 95 39) 1024).1 else nI (onesN (clN I ko nl h (lsR I h nl) mo (-1, I 95 39) 1024).1 10)
theorem b_M_calm {S : Nat × (Nat → Int32)} {d n : Nat} {I : mI} {J : mJ} {R : mR} {ko nh nl : Nat} (hn : 122 ≤ n) (hR : m_fin R) (ho : I 95 23 = nI ko) (hk : ko < 7) (hh : I 95 24 = nI nh) (hnh : nh ≤ 6) (hl : I 95 25 = nI nl) (hnl : nl ≤ 10) (hW : WFk I ko) {h : Nat} (hh6 : h < nh) {mo u : Int32}  {Q : Option Value → mI → mJ → mR → Prop} (hQ : ∀ lo, Q (some (.int (clR I ko nl h mo u))) (m_row I 95 (va_up (I 95) 39 lo)) J R) : AW S (d + 5) YM_calm n n Q 33 [(0, .ref 95), (2, .int (nI h)), (3, .int mo), (4, .int u)] [] I J R n := by
  refine a_aload_n 0 dM_calm_33 rfl rfl ?_
  refine a_iload_n 1 dM_calm_34 rfl rfl ?_
  refine a_callV (Q' := m_res (some (.int (ltsN (I 106) (nI h) nl))) I J R) (as := [.int (nI h)]) (st := []) dM_calm_35 ml12_362 rfl (Nat.le_of_ble_eq_true rfl) ly_95 rfl rfl (by decide) (by omega) (Nat.le_of_ble_eq_true rfl) rfl (Nat.le_refl _) (Nat.le_refl _) (c_M_lettersOf (nl := nl) hn hR hl hnl) (m_go ?_)
  show AW _ _ _ _ _ _ _ _ [.int (ltsN (I 106) (nI h) nl)] _ _ _ _
  refine a_istore (lv' := [(5, .int (ltsN (I 106) (nI h) nl)), (0, .ref 95), (2, .int (nI h)), (3, .int mo), (4, .int u)]) dM_calm_38 (by decide) rfl ?_
  refine a_iconst (v := -1) dM_calm_40 (by decide) ?_
  refine a_istore (lv' := [(6, .int (-1)), (5, .int (ltsN (I 106) (nI h) nl)), (0, .ref 95), (2, .int (nI h)), (3, .int mo), (4, .int u)]) dM_calm_41 (by decide) rfl ?_
  refine a_iconstN (a := 0) dM_calm_43 (by decide) ?_
  refine a_istore (lv' := [(7, .int (nI 0)), (6, .int (-1)), (5, .int (ltsN (I 106) (nI h) nl)), (0, .ref 95), (2, .int (nI h)), (3, .int mo), (4, .int u)]) dM_calm_44 (by decide) rfl ?_
  refine a_mem M39_self.symm ?_
  refine a_locs (lv' := [(7, .int (nI 0)), (6, .int (-1)), (0, .ref 95), (2, .int (nI h)), (3, .int mo), (4, .int u), (5, .int (ltsN (I 106) (nI h) nl))]) [0, 1, 3, 4, 5, 6, 2] rfl ?_
  refine l_clN (s0 := (-1, I 95 39)) hn hR ho hk hh hnh hl hnl hW (h := h) hh6 (b0 := (ltsN (I 106) (nI h) nl)) (mo := mo) (u := u) ?_ 1024 0 (by omega) _ rfl
  refine a_iload 5 dM_calm_119 rfl ?_
  refine a_if_ne (tgt := 130) dM_calm_121 (by decide) (fun c121 => ?_) (fun c121 => ?_)
  · refine a_iload 1 dM_calm_130 rfl ?_
    refine a_goto (tgt := 140) dM_calm_132 (by decide) ?_
    exact a_iret dM_calm_140 rfl (by have h := hQ; unfold clR at h; rw [if_pos (Or.inl c121)] at h; exact h _)
  · refine a_iload 1 dM_calm_124 rfl ?_
    refine a_iconst (v := -1) dM_calm_126 (by decide) ?_
    refine a_icmp_ne (tgt := 135) dM_calm_127 (by decide) (fun c127 => ?_) (fun c127 => ?_)
    · refine a_iload 1 dM_calm_135 rfl ?_
      refine a_callS (Q' := m_res (some (.int (nI (onesN ((clN I ko nl h (ltsN (I 106) (nI h) nl) mo (-1, I 95 39) 1024).1) 10)))) (m_row I 95 (va_up (I 95) 39 ((clN I ko nl h (ltsN (I 106) (nI h) nl) mo (-1, I 95 39) 1024).2))) J R) (as := [.int (clN I ko nl h (ltsN (I 106) (nI h) nl) mo (-1, I 95 39) 1024).1]) (st := []) dM_calm_137 ml12_369 rfl (Nat.le_of_ble_eq_true rfl) (Nat.le_of_ble_eq_true rfl) rfl (Nat.le_refl _) (Nat.le_refl _) c_M_ones (m_go ?_)
      show AW _ _ _ _ _ _ _ _ [.int (nI (onesN ((clN I ko nl h (ltsN (I 106) (nI h) nl) mo (-1, I 95 39) 1024).1) 10))] _ _ _ _
      exact a_iret dM_calm_140 rfl (by have h := hQ; unfold clR at h; rw [if_neg (fun q => q.elim (fun z => z c121) (fun z => c127 z))] at h; exact h _)
    · refine a_iload 1 dM_calm_130 rfl ?_
      refine a_goto (tgt := 140) dM_calm_132 (by decide) ?_
      exact a_iret dM_calm_140 rfl (by have h := hQ; unfold clR at h; rw [if_pos (Or.inr c127)] at h; exact h _)
