theorem gdR_fe {I I' : mI} {ko nh nl fo ms : Nat} (h1 : oR I' ko = oR I ko) (h2 : I' 106 = I 106) : gdR I' ko nh nl fo ms = gdR I ko nh nl fo ms := funext (fun s => propext (gdR_eq h1 h2))
/-- the letters behind one -/
def rtN (nl l : Nat) : Nat := (2 ^ nl - 1) ^^^ (2 ^ (l + 1) - 1)
theorem lowS {a b : Nat} (h : a ≤ b) : (2 ^ a - 1) &&& (2 ^ b - 1) = 2 ^ a - 1 := by
  refine Nat.eq_of_testBit_eq (fun i => ?_)
  rw [Nat.testBit_and, Nat.testBit_two_pow_sub_one, Nat.testBit_two_pow_sub_one]
  by_cases h1 : i < a
  · simp [h1, show i < b by omega]
  · simp [h1]
theorem rtN_nI {nl l P : Nat} (hP : 2 ^ nl = P) (hl : l < nl) (hnl : nl ≤ 10) : nI (P - 1) &&& (nI (2 ^ (l + 1) - 1) ^^^ -1) = nI (rtN nl l) := by
  rw [← hP]; exact mn_nI (lowS (by omega))
theorem rtN_lt {nl l P : Nat} (hP : 2 ^ nl = P) (hl : l < nl) : rtN nl l < P := by
  have := xor_le (lowS (show l + 1 ≤ nl by omega))
  have h2 := Nat.two_pow_pos nl
  unfold rtN
  omega
theorem or_bit {x l : Nat} (h : x < 2 ^ l) : x ||| 2 ^ l < 2 ^ (l + 1) := Nat.or_lt_two_pow (Nat.lt_of_lt_of_le h (Nat.pow_le_pow_right (by omega) (by omega))) (Nat.pow_lt_pow_right (by omega) (by omega))
theorem rm_bit {x l : Nat} (h : x < 2 ^ l) (hl : l < 31) : nI (x ||| 2 ^ l) &&& (nI (2 ^ l) ^^^ -1) = nI x := by
  refine b_ext (fun i hi => ?_)
  rw [b_and, bt_not _ hi, bt_nI hi, bt_nI hi, bt_nI hi, Nat.testBit_or, Nat.testBit_two_pow]
  by_cases e : l = i
  · subst e
    rw [Nat.testBit_lt_two_pow h]; simp
  · simp [e]
theorem shl_2 {l : Nat} (hl : l ≤ 10) : (nI 1) <<< (nI l &&& 31) = nI (2 ^ l) := shl_P rfl hl
/-- may the letter go on this day -/
def okD (gd : Nat → Prop) (nl days l : Nat) (b : Nat → Nat) (k : Nat) : Prop := gd (b k ||| 2 ^ l) ∧ rch gd (upN b k (b k ||| 2 ^ l)) (rtN nl l) days 0
/-- the letter's day, and the bags behind it -/
def stB (gd : Nat → Prop) (nl days l : Nat) (b b' : Nat → Nat) (v : Int32) : Prop := (∃ k, k < days ∧ okD gd nl days l b k ∧ (∀ j, j < k → ¬ okD gd nl days l b j) ∧ b' = upN b k (b k ||| 2 ^ l) ∧ v = nI k) ∨ ((∀ k, k < days → ¬ okD gd nl days l b k) ∧ b' = b ∧ v = -1)
/-- the bags behind so many letters, and the last one's day -/
def chB (gd : Nat → Prop) (nl days : Nat) : Nat → (Nat → Nat) → Int32 → Prop
  | 0, b, _ => b = fun _ => 0
  | l + 1, b', v => ∃ b v0, chB gd nl days l b v0 ∧ stB gd nl days l b b' v
/-- the day of a letter -/
def DY (gd : Nat → Prop) (nl days l : Nat) (v : Int32) : Prop := ∃ b, chB gd nl days (l + 1) b v
theorem and_m1 (x : Int32) : x &&& -1 = x := b_ext (fun i hi => by rw [b_and, b_m1 i hi, Bool.and_true])
abbrev m3 (I : mI) (B L N : Nat → Int32) : mI := m_row (m_row (m_row I 113 B) 114 L) 115 N
theorem m3_c {I : mI} {B L N L' N' : Nat → Int32} : m_row (m_row (m3 I B L N) 114 L') 115 N' = m3 I B L' N' := by
  funext a
  unfold m3 m_row
  by_cases h1 : a = 115
  · simp [h1]
  · by_cases h2 : a = 114
    · simp [h2]
    · simp [h1, h2]
theorem stB_lt {gd : Nat → Prop} {nl days l : Nat} {b b' : Nat → Nat} {v : Int32} (h : stB gd nl days l b b' v) (hb : ∀ i, i < 10 → b i < 2 ^ l) (hd : days ≤ 10) : ∀ i, i < 10 → b' i < 2 ^ (l + 1) := by
  intro i hi
  have h2 : (2 : Nat) ^ l < 2 ^ (l + 1) := Nat.pow_lt_pow_right (by omega) (by omega)
  rcases h with ⟨k, h1, _, _, e, _⟩ | ⟨_, e, _⟩
  · subst e
    unfold upN
    split
    · exact or_bit (hb k (by omega))
    · have := hb i hi; omega
  · subst e; have := hb i hi; omega
set_option maxHeartbeats 1000000 in
theorem l_dyC {S : Nat × (Nat → Int32)} {d n : Nat} {I : mI} {J : mJ} {R : mR} {ko nh nl : Nat} (hn : 122 ≤ n) (hR : m_fin R) (ho : I 95 23 = nI ko) (hk : ko < 7) (hh : I 95 24 = nI nh) (hnh : nh ≤ 6) (hl : I 95 25 = nI nl) (hnl : nl ≤ 10) (hW : WFk I ko) {fo ms P days l0 : Nat} (hPP : 2 ^ nl = P) (hl0 : l0 < nl) (hdy : days ≤ 10) (hG : ∀ j, j < P → I 111 j = gvR I ko nh nl fo ms j) {l : Nat} (hll : l ≤ l0) {b : Nat → Nat} (hbl : ∀ i, i < 10 → b i < 2 ^ l) {Q : Option Value → mI → mJ → mR → Prop} (hx : ∀ (b' : Nat → Nat) v (B L N : Nat → Int32) k, stB (gdR I ko nh nl fo ms) nl days l b b' v → rwN 10 B b' → AW S (d + 1) YM_dayOf n n Q 149 [(6, .int (nI k)), (3, .int v), (0, .ref 95), (1, .int (nI l0)), (2, .int (nI days)), (4, .int (nI l)), (5, .int (nI (rtN nl l)))] [] (m_row (m_row (m_row I 113 B) 114 L) 115 N) J R n) : ∀ m k, k + m = days → (∀ j, j < k → ¬ okD (gdR I ko nh nl fo ms) nl days l b j) → ∀ B L N : Nat → Int32, rwN 10 B b → AW S (d + 1) YM_dayOf n n Q 61 [(6, .int (nI k)), (3, .int (-1)), (0, .ref 95), (1, .int (nI l0)), (2, .int (nI days)), (4, .int (nI l)), (5, .int (nI (rtN nl l)))] [] (m_row (m_row (m_row I 113 B) 114 L) 115 N) J R n := by
  intro m
  induction m with
  | zero =>
    intro k hk9 hno B L N hB
    obtain rfl : k = days := by omega
    refine a_iload 0 dM_dayOf_61 rfl ?_
    refine a_iload_n 4 dM_dayOf_63 rfl rfl ?_
    refine a_icmp_geN (tgt := 149) dM_dayOf_64 (by decide) (by omega) (by omega) (fun _ => ?_) (fun c => False.elim (by omega))
    refine a_locs (lv' := [(6, .int (nI k)), (3, .int (-1)), (0, .ref 95), (1, .int (nI l0)), (2, .int (nI k)), (4, .int (nI l)), (5, .int (nI (rtN nl l)))]) [0, 1, 2, 3, 4, 5, 6] rfl ?_
    exact hx b (-1) B L N k (Or.inr ⟨hno, rfl, rfl⟩) hB
  | succ m ih =>
    intro k hk9 hno B L N hB
    have hbk := hbl k (by omega)
    have hor := or_bit hbk
    have h2P : 2 ^ (l + 1) ≤ P := by rw [← hPP]; exact Nat.pow_le_pow_right (by omega) (by omega)
    have hP4 : P ≤ 1024 := by rw [← hPP]; exact Nat.pow_le_pow_right (n := 2) (by omega) hnl
    have hGk := hG (b k ||| 2 ^ l) (by omega)
    have hBk := hB k (by omega)
    by_cases hg : gdR I ko nh nl fo ms (b k ||| 2 ^ l)
    · refine a_iload 0 dM_dayOf_61 rfl ?_
      refine a_iload_n 4 dM_dayOf_63 rfl rfl ?_
      refine a_icmp_geN (tgt := 149) dM_dayOf_64 (by decide) (by omega) (by omega) (fun c => False.elim (by omega)) (fun _ => ?_)
      refine a_iload_n 1 dM_dayOf_67 rfl rfl ?_
      refine a_iconst (v := -1) dM_dayOf_68 (by decide) ?_
      refine a_icmp_ne (tgt := 149) dM_dayOf_69 (by decide) (fun c => False.elim (c rfl)) (fun _ => ?_)
      refine a_aload_n 2 dM_dayOf_72 rfl rfl ?_
      refine a_geta (r := 113) dM_dayOf_73 fl12_63 rfl ly_95 (by omega) (rf_95_43 hR) ?_
      refine a_iload 0 dM_dayOf_76 rfl ?_
      refine a_dup2 dM_dayOf_78 rfl rfl ?_
      refine a_ialdN (a := k) dM_dayOf_79 ly_113 (by omega) (by omega) (by decide) ?_
      rw [show (m_row (m_row (m_row I 113 B) 114 L) 115 N) 113 k = B k from rfl]
      rw [show (B k) = (nI (b k)) from hBk]
      refine a_iconstN (a := 1) dM_dayOf_80 (by decide) ?_
      refine a_iload 5 dM_dayOf_81 rfl ?_
      refine a_ishl dM_dayOf_83 ?_
      rw [show ((nI 1) <<< ((nI l) &&& 31)) = (nI (2 ^ l)) from (shl_2 (by omega))]
      refine a_ior dM_dayOf_84 ?_
      rw [show ((nI (b k)) ||| (nI (2 ^ l))) = (nI (b k ||| 2 ^ l)) from or_nI]
      refine a_iastN (a := k) dM_dayOf_85 ly_113 (by omega) (by omega) (by decide) ?_
      rw [show m_up (m_row (m_row (m_row I 113 B) 114 L) 115 N) 113 k (nI (b k ||| 2 ^ l)) = (m_row (m_row (m_row I 113 (va_up B k (nI (b k ||| 2 ^ l)))) 114 L) 115 N) from (by rw [m_up_comm (by decide), m_up_comm (by decide), m_up_r])]
      refine a_aload_n 2 dM_dayOf_86 rfl rfl ?_
      refine a_geta (r := 111) dM_dayOf_87 fl12_56 rfl ly_95 (by omega) (rf_95_41 hR) ?_
      refine a_aload_n 2 dM_dayOf_90 rfl rfl ?_
      refine a_geta (r := 113) dM_dayOf_91 fl12_63 rfl ly_95 (by omega) (rf_95_43 hR) ?_
      refine a_iload 0 dM_dayOf_94 rfl ?_
      refine a_ialdN (a := k) dM_dayOf_96 ly_113 (by omega) (by omega) (by decide) ?_
      rw [show (m_row (m_row (m_row I 113 (va_up B k (nI (b k ||| 2 ^ l)))) 114 L) 115 N) 113 k = (va_up B k (nI (b k ||| 2 ^ l))) k from rfl]
      rw [show ((va_up B k (nI (b k ||| 2 ^ l))) k) = (nI (b k ||| 2 ^ l)) from vup_eq]
      refine a_zaldN (a := (b k ||| 2 ^ l)) dM_dayOf_97 ly_111 (by omega) (by omega) (by decide) ?_
      rw [show (m_row (m_row (m_row I 113 (va_up B k (nI (b k ||| 2 ^ l)))) 114 L) 115 N) 111 (b k ||| 2 ^ l) = I 111 (b k ||| 2 ^ l) from rfl]
      rw [show (I 111 (b k ||| 2 ^ l)) = 1 from hGk.trans (if_pos hg)]
      refine a_if_eq (tgt := 116) dM_dayOf_98 (by decide) (fun c => False.elim (absurd c (by decide))) (fun _ => ?_)
      refine a_aload_n 2 dM_dayOf_101 rfl rfl ?_
      refine a_iload 6 dM_dayOf_102 rfl ?_
      refine a_iload_n 4 dM_dayOf_104 rfl rfl ?_
      have hb9 : ∀ i, i < 10 → (m_row (m_row (m_row I 113 (va_up B k (nI (b k ||| 2 ^ l)))) 114 L) 115 N) 113 i = nI ((upN b k (b k ||| 2 ^ l)) i) ∧ ∀ s, s ≤ rtN nl l → (upN b k (b k ||| 2 ^ l)) i ||| s < P := by
        intro i hi
        refine ⟨rwN_up (k := k) (x := b k ||| 2 ^ l) hB i hi, fun s hs => ?_⟩
        have hs2 := rtN_lt hPP (show l < nl by omega)
        have hu : (upN b k (b k ||| 2 ^ l)) i < 2 ^ nl := by
          unfold upN
          split
          · omega
          · have := hbl i hi; have h3 : (2 : Nat) ^ l ≤ 2 ^ (l + 1) := Nat.pow_le_pow_right (by omega) (by omega); omega
        rw [← hPP]
        exact Nat.or_lt_two_pow hu (by omega)
      have hG9 : ∀ j, j < P → (m_row (m_row (m_row I 113 (va_up B k (nI (b k ||| 2 ^ l)))) 114 L) 115 N) 111 j = gvR (m_row (m_row (m_row I 113 (va_up B k (nI (b k ||| 2 ^ l)))) 114 L) 115 N) ko nh nl fo ms j := fun j hj => (hG j hj).trans (gvR_eq (I := I) (I' := (m_row (m_row (m_row I 113 (va_up B k (nI (b k ||| 2 ^ l)))) 114 L) 115 N)) rfl rfl).symm
      refine a_callV (Q' := fun v2 I2 J2 R2 => ∃ (L2 N2 : Nat → Int32) (v : Int32), v2 = some (.int v) ∧ ((v = 1 ∧ (rch (gdR I ko nh nl fo ms) (upN b k (b k ||| 2 ^ l)) (rtN nl l) days) 0) ∨ (v = 0 ∧ ¬ (rch (gdR I ko nh nl fo ms) (upN b k (b k ||| 2 ^ l)) (rtN nl l) days) 0)) ∧ I2 = (m_row (m_row (m_row I 113 (va_up B k (nI (b k ||| 2 ^ l)))) 114 L2) 115 N2) ∧ J2 = J ∧ R2 = R) (as := [.int (nI (rtN nl l)), .int (nI days)]) (st := []) dM_dayOf_105 ml12_420 rfl (Nat.le_of_ble_eq_true rfl) ly_95 rfl rfl (by decide) (by omega) (Nat.le_of_ble_eq_true rfl) rfl (Nat.le_refl _) (Nat.le_refl _) (b_M_canGo (S := S) (d := d) (n := n) (J := J) (R := R) (I := (m_row (m_row (m_row I 113 (va_up B k (nI (b k ||| 2 ^ l)))) 114 L) 115 N)) (nh := nh) (nl := nl) (fo := fo) (ms := ms) (b := (upN b k (b k ||| 2 ^ l))) hn hR ho hk hh hnh hl hnl hW hP4 (rtN_lt hPP (by omega)) hdy hb9 hG9 (fun L2 N2 v hv => ⟨L2, N2, v, rfl, by rw [gdR_fe (I := I) (I' := (m_row (m_row (m_row I 113 (va_up B k (nI (b k ||| 2 ^ l)))) 114 L) 115 N)) rfl rfl] at hv; exact hv, m3_c, rfl, rfl⟩)) ?_
      intro v2 I2 J2 R2 ⟨L2, N2, v, e1, hv, e2, e3, e4⟩
      subst e1
      rw [e2, e3, e4]
      rcases hv with ⟨hv1, hv2⟩ | ⟨hv1, hv2⟩
      · subst hv1
        show AW _ _ _ _ _ _ _ _ [.int 1] _ _ _ _
        refine a_if_eq (tgt := 116) dM_dayOf_108 (by decide) (fun c => False.elim (absurd c (by decide))) (fun _ => ?_)
        refine a_iload 0 dM_dayOf_111 rfl ?_
        refine a_goto (tgt := 117) dM_dayOf_113 (by decide) ?_
        refine a_istore_n (lv' := [(3, .int (nI k)), (6, .int (nI k)), (0, .ref 95), (1, .int (nI l0)), (2, .int (nI days)), (4, .int (nI l)), (5, .int (nI (rtN nl l)))]) dM_dayOf_117 rfl (by decide) rfl ?_
        refine a_aload_n 2 dM_dayOf_118 rfl rfl ?_
        refine a_geta (r := 113) dM_dayOf_119 fl12_63 rfl ly_95 (by omega) (rf_95_43 hR) ?_
        refine a_iload 1 dM_dayOf_122 rfl ?_
        refine a_dup2 dM_dayOf_124 rfl rfl ?_
        refine a_ialdN (a := k) dM_dayOf_125 ly_113 (by omega) (by omega) (by decide) ?_
        rw [show (m_row (m_row (m_row I 113 (va_up B k (nI (b k ||| 2 ^ l)))) 114 L2) 115 N2) 113 k = (va_up B k (nI (b k ||| 2 ^ l))) k from rfl]
        rw [show ((va_up B k (nI (b k ||| 2 ^ l))) k) = (nI (b k ||| 2 ^ l)) from vup_eq]
        refine a_iload_n 0 dM_dayOf_126 rfl rfl ?_
        refine a_iconst (v := -1) dM_dayOf_127 (by decide) ?_
        refine a_icmp_ne (tgt := 140) dM_dayOf_128 (by decide) (fun _ => ?_) (fun c => False.elim (nI_m1 (by omega) c))
        refine a_iconst (v := -1) dM_dayOf_140 (by decide) ?_
        refine a_iand dM_dayOf_141 ?_
        rw [show ((nI (b k ||| 2 ^ l)) &&& (-1)) = (nI (b k ||| 2 ^ l)) from (and_m1 _)]
        refine a_iastN (a := k) dM_dayOf_142 ly_113 (by omega) (by omega) (by decide) ?_
        rw [show m_up (m_row (m_row (m_row I 113 (va_up B k (nI (b k ||| 2 ^ l)))) 114 L2) 115 N2) 113 k (nI (b k ||| 2 ^ l)) = (m_row (m_row (m_row I 113 (va_up (va_up B k (nI (b k ||| 2 ^ l))) k (nI (b k ||| 2 ^ l)))) 114 L2) 115 N2) from (by rw [m_up_comm (by decide), m_up_comm (by decide), m_up_r])]
        refine a_iincN (lv' := [(6, .int (nI (k + 1))), (3, .int (nI k)), (0, .ref 95), (1, .int (nI l0)), (2, .int (nI days)), (4, .int (nI l)), (5, .int (nI (rtN nl l)))]) (j := 1) dM_dayOf_143 rfl (by decide) rfl ?_
        refine a_goto (tgt := 61) dM_dayOf_146 (by decide) ?_
        refine a_iload 0 dM_dayOf_61 rfl ?_
        refine a_iload_n 4 dM_dayOf_63 rfl rfl ?_
        refine a_icmp_geN (tgt := 149) dM_dayOf_64 (by decide) (by omega) (by omega) (fun c64 => ?_) (fun c64 => ?_)
        · refine a_locs (lv' := [(6, .int (nI (k + 1))), (3, .int (nI k)), (0, .ref 95), (1, .int (nI l0)), (2, .int (nI days)), (4, .int (nI l)), (5, .int (nI (rtN nl l)))]) [0, 1, 2, 3, 4, 5, 6] rfl ?_
          exact hx (upN b k (b k ||| 2 ^ l)) (nI k) _ L2 N2 _ (Or.inl ⟨k, by omega, ⟨hg, hv2⟩, hno, rfl, rfl⟩) (by rw [va_uu]; exact rwN_up hB)
        · refine a_iload_n 1 dM_dayOf_67 rfl rfl ?_
          refine a_iconst (v := -1) dM_dayOf_68 (by decide) ?_
          refine a_icmp_ne (tgt := 149) dM_dayOf_69 (by decide) (fun _ => ?_) (fun c => False.elim (nI_m1 (by omega) c))
          refine a_locs (lv' := [(6, .int (nI (k + 1))), (3, .int (nI k)), (0, .ref 95), (1, .int (nI l0)), (2, .int (nI days)), (4, .int (nI l)), (5, .int (nI (rtN nl l)))]) [0, 1, 2, 3, 4, 5, 6] rfl ?_
          exact hx (upN b k (b k ||| 2 ^ l)) (nI k) _ L2 N2 _ (Or.inl ⟨k, by omega, ⟨hg, hv2⟩, hno, rfl, rfl⟩) (by rw [va_uu]; exact rwN_up hB)
      · subst hv1
        show AW _ _ _ _ _ _ _ _ [.int 0] _ _ _ _
        refine a_if_eq (tgt := 116) dM_dayOf_108 (by decide) (fun _ => ?_) (fun c => False.elim (c rfl))
        refine a_iconst (v := -1) dM_dayOf_116 (by decide) ?_
        refine a_istore_n (lv' := [(3, .int (-1)), (6, .int (nI k)), (0, .ref 95), (1, .int (nI l0)), (2, .int (nI days)), (4, .int (nI l)), (5, .int (nI (rtN nl l)))]) dM_dayOf_117 rfl (by decide) rfl ?_
        refine a_aload_n 2 dM_dayOf_118 rfl rfl ?_
        refine a_geta (r := 113) dM_dayOf_119 fl12_63 rfl ly_95 (by omega) (rf_95_43 hR) ?_
        refine a_iload 1 dM_dayOf_122 rfl ?_
        refine a_dup2 dM_dayOf_124 rfl rfl ?_
        refine a_ialdN (a := k) dM_dayOf_125 ly_113 (by omega) (by omega) (by decide) ?_
        rw [show (m_row (m_row (m_row I 113 (va_up B k (nI (b k ||| 2 ^ l)))) 114 L2) 115 N2) 113 k = (va_up B k (nI (b k ||| 2 ^ l))) k from rfl]
        rw [show ((va_up B k (nI (b k ||| 2 ^ l))) k) = (nI (b k ||| 2 ^ l)) from vup_eq]
        refine a_iload_n 0 dM_dayOf_126 rfl rfl ?_
        refine a_iconst (v := -1) dM_dayOf_127 (by decide) ?_
        refine a_icmp_ne (tgt := 140) dM_dayOf_128 (by decide) (fun c => False.elim (c rfl)) (fun _ => ?_)
        refine a_iconstN (a := 1) dM_dayOf_131 (by decide) ?_
        refine a_iload 5 dM_dayOf_132 rfl ?_
        refine a_ishl dM_dayOf_134 ?_
        rw [show ((nI 1) <<< ((nI l) &&& 31)) = (nI (2 ^ l)) from (shl_2 (by omega))]
        refine a_iconst (v := -1) dM_dayOf_135 (by decide) ?_
        refine a_ixor dM_dayOf_136 ?_
        refine a_goto (tgt := 141) dM_dayOf_137 (by decide) ?_
        refine a_iand dM_dayOf_141 ?_
        rw [show ((nI (b k ||| 2 ^ l)) &&& ((nI (2 ^ l)) ^^^ (-1))) = (nI (b k)) from (rm_bit hbk (by omega))]
        refine a_iastN (a := k) dM_dayOf_142 ly_113 (by omega) (by omega) (by decide) ?_
        rw [show m_up (m_row (m_row (m_row I 113 (va_up B k (nI (b k ||| 2 ^ l)))) 114 L2) 115 N2) 113 k (nI (b k)) = (m_row (m_row (m_row I 113 (va_up (va_up B k (nI (b k ||| 2 ^ l))) k (nI (b k)))) 114 L2) 115 N2) from (by rw [m_up_comm (by decide), m_up_comm (by decide), m_up_r])]
        refine a_iincN (lv' := [(6, .int (nI (k + 1))), (3, .int (-1)), (0, .ref 95), (1, .int (nI l0)), (2, .int (nI days)), (4, .int (nI l)), (5, .int (nI (rtN nl l)))]) (j := 1) dM_dayOf_143 rfl (by decide) rfl ?_
        refine a_goto (tgt := 61) dM_dayOf_146 (by decide) ?_
        refine a_locs (lv' := [(6, .int (nI (k + 1))), (3, .int (-1)), (0, .ref 95), (1, .int (nI l0)), (2, .int (nI days)), (4, .int (nI l)), (5, .int (nI (rtN nl l)))]) [0, 1, 2, 3, 4, 5, 6] rfl ?_
        exact ih (k + 1) (by omega) (fun j hj => by
          rcases Nat.lt_or_eq_of_le (Nat.le_of_lt_succ hj) with h1 | h1
          · exact hno j h1
          · subst h1; exact fun q => hv2 q.2) _ L2 N2 (fun i hi => by
          by_cases h1 : i = k
          · subst h1; exact vup_eq
          · rw [vup_ne h1, vup_ne h1]; exact hB i hi)
    · refine a_iload 0 dM_dayOf_61 rfl ?_
      refine a_iload_n 4 dM_dayOf_63 rfl rfl ?_
      refine a_icmp_geN (tgt := 149) dM_dayOf_64 (by decide) (by omega) (by omega) (fun c => False.elim (by omega)) (fun _ => ?_)
      refine a_iload_n 1 dM_dayOf_67 rfl rfl ?_
      refine a_iconst (v := -1) dM_dayOf_68 (by decide) ?_
      refine a_icmp_ne (tgt := 149) dM_dayOf_69 (by decide) (fun c => False.elim (c rfl)) (fun _ => ?_)
      refine a_aload_n 2 dM_dayOf_72 rfl rfl ?_
      refine a_geta (r := 113) dM_dayOf_73 fl12_63 rfl ly_95 (by omega) (rf_95_43 hR) ?_
      refine a_iload 0 dM_dayOf_76 rfl ?_
      refine a_dup2 dM_dayOf_78 rfl rfl ?_
      refine a_ialdN (a := k) dM_dayOf_79 ly_113 (by omega) (by omega) (by decide) ?_
      rw [show (m_row (m_row (m_row I 113 B) 114 L) 115 N) 113 k = B k from rfl]
      rw [show (B k) = (nI (b k)) from hBk]
      refine a_iconstN (a := 1) dM_dayOf_80 (by decide) ?_
      refine a_iload 5 dM_dayOf_81 rfl ?_
      refine a_ishl dM_dayOf_83 ?_
      rw [show ((nI 1) <<< ((nI l) &&& 31)) = (nI (2 ^ l)) from (shl_2 (by omega))]
      refine a_ior dM_dayOf_84 ?_
      rw [show ((nI (b k)) ||| (nI (2 ^ l))) = (nI (b k ||| 2 ^ l)) from or_nI]
      refine a_iastN (a := k) dM_dayOf_85 ly_113 (by omega) (by omega) (by decide) ?_
      rw [show m_up (m_row (m_row (m_row I 113 B) 114 L) 115 N) 113 k (nI (b k ||| 2 ^ l)) = (m_row (m_row (m_row I 113 (va_up B k (nI (b k ||| 2 ^ l)))) 114 L) 115 N) from (by rw [m_up_comm (by decide), m_up_comm (by decide), m_up_r])]
      refine a_aload_n 2 dM_dayOf_86 rfl rfl ?_
      refine a_geta (r := 111) dM_dayOf_87 fl12_56 rfl ly_95 (by omega) (rf_95_41 hR) ?_
      refine a_aload_n 2 dM_dayOf_90 rfl rfl ?_
      refine a_geta (r := 113) dM_dayOf_91 fl12_63 rfl ly_95 (by omega) (rf_95_43 hR) ?_
      refine a_iload 0 dM_dayOf_94 rfl ?_
      refine a_ialdN (a := k) dM_dayOf_96 ly_113 (by omega) (by omega) (by decide) ?_
      rw [show (m_row (m_row (m_row I 113 (va_up B k (nI (b k ||| 2 ^ l)))) 114 L) 115 N) 113 k = (va_up B k (nI (b k ||| 2 ^ l))) k from rfl]
      rw [show ((va_up B k (nI (b k ||| 2 ^ l))) k) = (nI (b k ||| 2 ^ l)) from vup_eq]
      refine a_zaldN (a := (b k ||| 2 ^ l)) dM_dayOf_97 ly_111 (by omega) (by omega) (by decide) ?_
      rw [show (m_row (m_row (m_row I 113 (va_up B k (nI (b k ||| 2 ^ l)))) 114 L) 115 N) 111 (b k ||| 2 ^ l) = I 111 (b k ||| 2 ^ l) from rfl]
      rw [show (I 111 (b k ||| 2 ^ l)) = 0 from hGk.trans (if_neg hg)]
      refine a_if_eq (tgt := 116) dM_dayOf_98 (by decide) (fun _ => ?_) (fun c => False.elim (c rfl))
      refine a_iconst (v := -1) dM_dayOf_116 (by decide) ?_
      refine a_istore_n (lv' := [(3, .int (-1)), (6, .int (nI k)), (0, .ref 95), (1, .int (nI l0)), (2, .int (nI days)), (4, .int (nI l)), (5, .int (nI (rtN nl l)))]) dM_dayOf_117 rfl (by decide) rfl ?_
      refine a_aload_n 2 dM_dayOf_118 rfl rfl ?_
      refine a_geta (r := 113) dM_dayOf_119 fl12_63 rfl ly_95 (by omega) (rf_95_43 hR) ?_
      refine a_iload 1 dM_dayOf_122 rfl ?_
      refine a_dup2 dM_dayOf_124 rfl rfl ?_
      refine a_ialdN (a := k) dM_dayOf_125 ly_113 (by omega) (by omega) (by decide) ?_
      rw [show (m_row (m_row (m_row I 113 (va_up B k (nI (b k ||| 2 ^ l)))) 114 L) 115 N) 113 k = (va_up B k (nI (b k ||| 2 ^ l))) k from rfl]
      rw [show ((va_up B k (nI (b k ||| 2 ^ l))) k) = (nI (b k ||| 2 ^ l)) from vup_eq]
      refine a_iload_n 0 dM_dayOf_126 rfl rfl ?_
      refine a_iconst (v := -1) dM_dayOf_127 (by decide) ?_
      refine a_icmp_ne (tgt := 140) dM_dayOf_128 (by decide) (fun c => False.elim (c rfl)) (fun _ => ?_)
      refine a_iconstN (a := 1) dM_dayOf_131 (by decide) ?_
      refine a_iload 5 dM_dayOf_132 rfl ?_
      refine a_ishl dM_dayOf_134 ?_
      rw [show ((nI 1) <<< ((nI l) &&& 31)) = (nI (2 ^ l)) from (shl_2 (by omega))]
      refine a_iconst (v := -1) dM_dayOf_135 (by decide) ?_
      refine a_ixor dM_dayOf_136 ?_
      refine a_goto (tgt := 141) dM_dayOf_137 (by decide) ?_
      refine a_iand dM_dayOf_141 ?_
      rw [show ((nI (b k ||| 2 ^ l)) &&& ((nI (2 ^ l)) ^^^ (-1))) = (nI (b k)) from (rm_bit hbk (by omega))]
      refine a_iastN (a := k) dM_dayOf_142 ly_113 (by omega) (by omega) (by decide) ?_
      rw [show m_up (m_row (m_row (m_row I 113 (va_up B k (nI (b k ||| 2 ^ l)))) 114 L) 115 N) 113 k (nI (b k)) = (m_row (m_row (m_row I 113 (va_up (va_up B k (nI (b k ||| 2 ^ l))) k (nI (b k)))) 114 L) 115 N) from (by rw [m_up_comm (by decide), m_up_comm (by decide), m_up_r])]
      refine a_iincN (lv' := [(6, .int (nI (k + 1))), (3, .int (-1)), (0, .ref 95), (1, .int (nI l0)), (2, .int (nI days)), (4, .int (nI l)), (5, .int (nI (rtN nl l)))]) (j := 1) dM_dayOf_143 rfl (by decide) rfl ?_
      refine a_goto (tgt := 61) dM_dayOf_146 (by decide) ?_
      refine a_locs (lv' := [(6, .int (nI (k + 1))), (3, .int (-1)), (0, .ref 95), (1, .int (nI l0)), (2, .int (nI days)), (4, .int (nI l)), (5, .int (nI (rtN nl l)))]) [0, 1, 2, 3, 4, 5, 6] rfl ?_
      exact ih (k + 1) (by omega) (fun j hj => by
        rcases Nat.lt_or_eq_of_le (Nat.le_of_lt_succ hj) with h1 | h1
        · exact hno j h1
        · subst h1; exact fun q => hg q.1) _ L N (fun i hi => by
        by_cases h1 : i = k
        · subst h1; exact vup_eq
        · rw [vup_ne h1, vup_ne h1]; exact hB i hi)
theorem chB_lt {gd : Nat → Prop} {nl days : Nat} (hd : days ≤ 10) : ∀ l b v, chB gd nl days l b v → ∀ i, i < 10 → b i < 2 ^ l := by
  intro l
  induction l with
  | zero => intro b v h i hi; rw [show b = fun _ => 0 from h]; exact Nat.zero_lt_one
  | succ l ih =>
    intro b' v ⟨b, v0, h1, h2⟩
    exact stB_lt h2 (ih b v0 h1) hd
theorem l_dyB {S : Nat × (Nat → Int32)} {d n : Nat} {I : mI} {J : mJ} {R : mR} {ko nh nl : Nat} (hn : 122 ≤ n) (hR : m_fin R) (ho : I 95 23 = nI ko) (hk : ko < 7) (hh : I 95 24 = nI nh) (hnh : nh ≤ 6) (hl : I 95 25 = nI nl) (hnl : nl ≤ 10) (hW : WFk I ko) {fo ms P days l0 : Nat} (hPP : 2 ^ nl = P) (hl0 : l0 < nl) (hdy : days ≤ 10) (hG : ∀ j, j < P → I 111 j = gvR I ko nh nl fo ms j) {Q : Option Value → mI → mJ → mR → Prop} (hQ : ∀ v (B L N : Nat → Int32), DY (gdR I ko nh nl fo ms) nl days l0 v → Q (some (.int v)) (m_row (m_row (m_row I 113 B) 114 L) 115 N) J R) : ∀ m l, l + m = l0 + 1 → ∀ (b : Nat → Nat) v (B L N : Nat → Int32), chB (gdR I ko nh nl fo ms) nl days l b v → rwN 10 B b → AW S (d + 1) YM_dayOf n n Q 29 [(4, .int (nI l)), (3, .int v), (0, .ref 95), (1, .int (nI l0)), (2, .int (nI days))] [] (m_row (m_row (m_row I 113 B) 114 L) 115 N) J R n := by
  intro m
  induction m with
  | zero =>
    intro l hl9 b v B L N hc hB
    obtain rfl : l = l0 + 1 := by omega
    refine a_iload 0 dM_dayOf_29 rfl ?_
    refine a_iload_n 3 dM_dayOf_31 rfl rfl ?_
    refine a_icmp_gtN (tgt := 155) dM_dayOf_32 (by decide) (by omega) (by omega) (fun _ => ?_) (fun c => False.elim (by omega))
    refine a_iload_n 1 dM_dayOf_155 rfl rfl ?_
    exact a_iret dM_dayOf_156 rfl (hQ v B L N ⟨b, hc⟩)
  | succ m ih =>
    intro l hl9 b v B L N hc hB
    have hP0 : 0 < P := by rw [← hPP]; exact Nat.two_pow_pos nl
    have h20 := Nat.two_pow_pos (l + 1)
    refine a_iload 0 dM_dayOf_29 rfl ?_
    refine a_iload_n 3 dM_dayOf_31 rfl rfl ?_
    refine a_icmp_gtN (tgt := 155) dM_dayOf_32 (by decide) (by omega) (by omega) (fun c => False.elim (by omega)) (fun _ => ?_)
    refine a_iconst (v := -1) dM_dayOf_35 (by decide) ?_
    refine a_istore_n (lv' := [(3, .int (-1)), (4, .int (nI l)), (0, .ref 95), (1, .int (nI l0)), (2, .int (nI days))]) dM_dayOf_36 rfl (by decide) rfl ?_
    refine a_iconstN (a := 1) dM_dayOf_37 (by decide) ?_
    refine a_aload_n 2 dM_dayOf_38 rfl rfl ?_
    refine a_geti dM_dayOf_39 fl12_262 rfl ly_95 (by omega) ?_
    rw [show (m_row (m_row (m_row I 113 B) 114 L) 115 N) 95 25 = (nI nl) from hl]
    refine a_ishl dM_dayOf_42 ?_
    rw [show ((nI 1) <<< ((nI nl) &&& 31)) = (nI P) from (shl_P hPP hnl)]
    refine a_iconstN (a := 1) dM_dayOf_43 (by decide) ?_
    refine a_isubN dM_dayOf_44 hP0 ?_
    refine a_iconstN (a := 1) dM_dayOf_45 (by decide) ?_
    refine a_iload 1 dM_dayOf_46 rfl ?_
    refine a_iconstN (a := 1) dM_dayOf_48 (by decide) ?_
    refine a_iaddN (a := l) (b := 1) dM_dayOf_49 ?_
    refine a_ishl dM_dayOf_50 ?_
    rw [show ((nI 1) <<< ((nI (l + 1)) &&& 31)) = (nI (2 ^ (l + 1))) from (shl_2 (by omega))]
    refine a_iconstN (a := 1) dM_dayOf_51 (by decide) ?_
    refine a_isubN dM_dayOf_52 h20 ?_
    refine a_iconst (v := -1) dM_dayOf_53 (by decide) ?_
    refine a_ixor dM_dayOf_54 ?_
    refine a_iand dM_dayOf_55 ?_
    rw [show ((nI (P - 1)) &&& ((nI ((2 ^ (l + 1)) - 1)) ^^^ (-1))) = (nI (rtN nl l)) from (rtN_nI hPP (by omega) hnl)]
    refine a_istore (lv' := [(5, .int (nI (rtN nl l))), (3, .int (-1)), (4, .int (nI l)), (0, .ref 95), (1, .int (nI l0)), (2, .int (nI days))]) dM_dayOf_56 (by decide) rfl ?_
    refine a_iconstN (a := 0) dM_dayOf_58 (by decide) ?_
    refine a_istore (lv' := [(6, .int (nI 0)), (5, .int (nI (rtN nl l))), (3, .int (-1)), (4, .int (nI l)), (0, .ref 95), (1, .int (nI l0)), (2, .int (nI days))]) dM_dayOf_59 (by decide) rfl ?_
    refine a_locs (lv' := [(6, .int (nI 0)), (3, .int (-1)), (0, .ref 95), (1, .int (nI l0)), (2, .int (nI days)), (4, .int (nI l)), (5, .int (nI (rtN nl l)))]) [0, 2, 4, 5, 6, 3, 1] rfl ?_
    refine l_dyC hn hR ho hk hh hnh hl hnl hW hPP hl0 hdy hG (l := l) (by omega) (chB_lt hdy l b v hc) (fun b2 v2 B2 L2 N2 k2 h1 h2 => ?_) days 0 (by omega) (fun j hj => absurd hj (Nat.not_lt_zero _)) B L N hB
    refine a_iincN (lv' := [(4, .int (nI (l + 1))), (6, .int (nI k2)), (3, .int v2), (0, .ref 95), (1, .int (nI l0)), (2, .int (nI days)), (5, .int (nI (rtN nl l)))]) (j := 5) dM_dayOf_149 rfl (by decide) rfl ?_
    refine a_goto (tgt := 29) dM_dayOf_152 (by decide) ?_
    refine a_locs (lv' := [(4, .int (nI (l + 1))), (3, .int v2), (0, .ref 95), (1, .int (nI l0)), (2, .int (nI days))]) [0, 2, 3, 4, 5] rfl ?_
    exact ih (l + 1) (by omega) b2 v2 B2 L2 N2 ⟨b, v, hc, h1⟩ h2
theorem m3_self {I : mI} : m3 I (I 113) (I 114) (I 115) = I := by unfold m3; rw [m_row_self, m_row_self, m_row_self]
theorem l_dyA {S : Nat × (Nat → Int32)} {d n : Nat} {I : mI} {J : mJ} {R : mR} {ko nh nl : Nat} (hn : 122 ≤ n) (hR : m_fin R) (ho : I 95 23 = nI ko) (hk : ko < 7) (hh : I 95 24 = nI nh) (hnh : nh ≤ 6) (hl : I 95 25 = nI nl) (hnl : nl ≤ 10) (hW : WFk I ko) {fo ms P days l0 : Nat} (hPP : 2 ^ nl = P) (hl0 : l0 < nl) (hdy : days ≤ 10) (hG : ∀ j, j < P → I 111 j = gvR I ko nh nl fo ms j) {Q : Option Value → mI → mJ → mR → Prop} {L N : Nat → Int32} (hx : ∀ B : Nat → Int32, rwN 10 B (fun _ => 0) → AW S (d + 1) YM_dayOf n n Q 26 [(4, .int (nI 10)), (3, .int (-1)), (0, .ref 95), (1, .int (nI l0)), (2, .int (nI days))] [] (m_row (m_row (m_row I 113 B) 114 L) 115 N) J R n) : ∀ m k, k + m = 10 → ∀ B : Nat → Int32, (∀ j, j < k → B j = nI 0) → AW S (d + 1) YM_dayOf n n Q 5 [(4, .int (nI k)), (3, .int (-1)), (0, .ref 95), (1, .int (nI l0)), (2, .int (nI days))] [] (m_row (m_row (m_row I 113 B) 114 L) 115 N) J R n := by
  intro m
  induction m with
  | zero =>
    intro k hk9 B hB
    obtain rfl : k = 10 := by omega
    refine a_iload 0 dM_dayOf_5 rfl ?_
    refine a_bipushN (a := 10) dM_dayOf_7 (by decide) ?_
    refine a_icmp_geN (tgt := 26) dM_dayOf_9 (by decide) (by omega) (by omega) (fun _ => ?_) (fun c => False.elim (by omega))
    exact hx B hB
  | succ m ih =>
    intro k hk9 B hB
    refine a_iload 0 dM_dayOf_5 rfl ?_
    refine a_bipushN (a := 10) dM_dayOf_7 (by decide) ?_
    refine a_icmp_geN (tgt := 26) dM_dayOf_9 (by decide) (by omega) (by omega) (fun c => False.elim (by omega)) (fun _ => ?_)
    refine a_aload_n 2 dM_dayOf_12 rfl rfl ?_
    refine a_geta (r := 113) dM_dayOf_13 fl12_63 rfl ly_95 (by omega) (rf_95_43 hR) ?_
    refine a_iload 0 dM_dayOf_16 rfl ?_
    refine a_iconstN (a := 0) dM_dayOf_18 (by decide) ?_
    refine a_iastN (a := k) dM_dayOf_19 ly_113 (by omega) (by omega) (by decide) ?_
    rw [show m_up (m_row (m_row (m_row I 113 B) 114 L) 115 N) 113 k (nI 0) = (m_row (m_row (m_row I 113 (va_up B k (nI 0))) 114 L) 115 N) from (by rw [m_up_comm (by decide), m_up_comm (by decide), m_up_r])]
    refine a_iincN (lv' := [(4, .int (nI (k + 1))), (3, .int (-1)), (0, .ref 95), (1, .int (nI l0)), (2, .int (nI days))]) (j := 0) dM_dayOf_20 rfl (by decide) rfl ?_
    refine a_goto (tgt := 5) dM_dayOf_23 (by decide) ?_
    refine a_locs (lv' := [(4, .int (nI (k + 1))), (3, .int (-1)), (0, .ref 95), (1, .int (nI l0)), (2, .int (nI days))]) [0, 1, 2, 3, 4] rfl ?_
    exact ih (k + 1) (by omega) _ (fun j hj => by
      by_cases h1 : j = k
      · subst h1; exact vup_eq
      · rw [vup_ne h1]; exact hB j (by omega))
theorem b_M_dayOf {S : Nat × (Nat → Int32)} {d n : Nat} {I : mI} {J : mJ} {R : mR} {ko nh nl : Nat} (hn : 122 ≤ n) (hR : m_fin R) (ho : I 95 23 = nI ko) (hk : ko < 7) (hh : I 95 24 = nI nh) (hnh : nh ≤ 6) (hl : I 95 25 = nI nl) (hnl : nl ≤ 10) (hW : WFk I ko) {fo ms P days l0 : Nat} (hPP : 2 ^ nl = P) (hl0 : l0 < nl) (hdy : days ≤ 10) (hG : ∀ j, j < P → I 111 j = gvR I ko nh nl fo ms j)  {Q : Option Value → mI → mJ → mR → Prop} (hQ : ∀ v (B L N : Nat → Int32), DY (gdR I ko nh nl fo ms) nl days l0 v → Q (some (.int v)) (m_row (m_row (m_row I 113 B) 114 L) 115 N) J R) : AW S (d + 1) YM_dayOf n n Q 0 [(0, .ref 95), (1, .int (nI l0)), (2, .int (nI days))] [] I J R n := by
  refine a_iconst (v := -1) dM_dayOf_0 (by decide) ?_
  refine a_istore_n (lv' := [(3, .int (-1)), (0, .ref 95), (1, .int (nI l0)), (2, .int (nI days))]) dM_dayOf_1 rfl (by decide) rfl ?_
  refine a_iconstN (a := 0) dM_dayOf_2 (by decide) ?_
  refine a_istore (lv' := [(4, .int (nI 0)), (3, .int (-1)), (0, .ref 95), (1, .int (nI l0)), (2, .int (nI days))]) dM_dayOf_3 (by decide) rfl ?_
  refine a_mem m3_self.symm ?_
  refine a_locs (lv' := [(4, .int (nI 0)), (3, .int (-1)), (0, .ref 95), (1, .int (nI l0)), (2, .int (nI days))]) [0, 1, 2, 3, 4] rfl ?_
  refine l_dyA hn hR ho hk hh hnh hl hnl hW hPP hl0 hdy hG (fun B hB => ?_) 10 0 (by omega) (I 113) (fun j hj => absurd hj (Nat.not_lt_zero _))
  refine a_iconstN (a := 0) dM_dayOf_26 (by decide) ?_
  refine a_istore (lv' := [(4, .int (nI 0)), (3, .int (-1)), (0, .ref 95), (1, .int (nI l0)), (2, .int (nI days))]) dM_dayOf_27 (by decide) rfl ?_
  refine a_locs (lv' := [(4, .int (nI 0)), (3, .int (-1)), (0, .ref 95), (1, .int (nI l0)), (2, .int (nI days))]) [0, 1, 2, 3, 4] rfl ?_
  exact l_dyB hn hR ho hk hh hnh hl hnl hW hPP hl0 hdy hG hQ (l0 + 1) 0 (by omega) (fun _ => 0) (-1) B (I 114) (I 115) rfl hB
theorem q_M_bags0 {S : Nat × (Nat → Int32)} {d n : Nat} {I : mI} {J : mJ} {R : mR} (hn : 122 ≤ n) (hR : m_fin R) {x : Int32} (h0 : f_in x 0 (I 100 0 - 1) = 0) {y : Int32} {z : Int32} {t : Int32}  : AW S (d + 4) YM_bags n n (qV I R (.int (-1))) 0 [(0, .ref 95), (1, .int x), (2, .int y), (3, .int z), (4, .int t)] [] I J R n := by
  refine a_aload_n 0 dM_bags_0 rfl rfl ?_
  refine a_iconstN (a := 0) dM_bags_1 (by decide) ?_
  refine a_puti dM_bags_2 fl12_90 rfl ly_95 (by omega) ?_
  refine a_iload_n 2 dM_bags_5 rfl rfl ?_
  refine a_iconstN (a := 1) dM_bags_6 (by decide) ?_
  refine a_bipushN (a := 99) dM_bags_7 (by decide) ?_
  refine a_callS (Q' := m_res (some (.int (f_in y (nI 1) (nI 99)))) (m_up I 95 0 (nI 0)) J R) (as := [.int y, .int (nI 1), .int (nI 99)]) (st := []) dM_bags_9 ml12_102 rfl (Nat.le_of_ble_eq_true rfl) (Nat.le_of_ble_eq_true rfl) rfl (Nat.le_refl _) (Nat.le_refl _) c_M_in (m_go ?_)
  show AW _ _ _ _ _ _ _ _ [.int (f_in y (nI 1) (nI 99))] _ _ _ _
  refine a_if_eq (tgt := 48) dM_bags_12 (by decide) (fun c12 => ?_) (fun c12 => ?_)
  · refine a_iconst (v := -1) dM_bags_48 (by decide) ?_
    exact a_iret dM_bags_49 rfl ⟨rfl, (KP.up KP.refl (by omega)), (KF.refl hR)⟩
  · refine a_iload_n 3 dM_bags_15 rfl rfl ?_
    refine a_iconstN (a := 1) dM_bags_16 (by decide) ?_
    refine a_bipushN (a := 10) dM_bags_17 (by decide) ?_
    refine a_callS (Q' := m_res (some (.int (f_in z (nI 1) (nI 10)))) (m_up I 95 0 (nI 0)) J R) (as := [.int z, .int (nI 1), .int (nI 10)]) (st := []) dM_bags_19 ml12_102 rfl (Nat.le_of_ble_eq_true rfl) (Nat.le_of_ble_eq_true rfl) rfl (Nat.le_refl _) (Nat.le_refl _) c_M_in (m_go ?_)
    show AW _ _ _ _ _ _ _ _ [.int (f_in z (nI 1) (nI 10))] _ _ _ _
    refine a_if_eq (tgt := 48) dM_bags_22 (by decide) (fun c22 => ?_) (fun c22 => ?_)
    · refine a_iconst (v := -1) dM_bags_48 (by decide) ?_
      exact a_iret dM_bags_49 rfl ⟨rfl, (KP.up KP.refl (by omega)), (KF.refl hR)⟩
    · refine a_aload_n 0 dM_bags_25 rfl rfl ?_
      refine a_iload_n 1 dM_bags_26 rfl rfl ?_
      refine a_callV (Q' := m_res (some (.int 0)) (m_up I 95 0 (nI 0)) J R) (as := [.int x]) (st := []) dM_bags_27 ml12_277 rfl (Nat.le_of_ble_eq_true rfl) ly_95 rfl rfl (by decide) (by omega) (Nat.le_of_ble_eq_true rfl) rfl (Nat.le_refl _) (Nat.le_refl _) (c_M_hand0 (I := cdI I) hn hR h0) (m_go ?_)
      show AW _ _ _ _ _ _ _ _ [.int 0] _ _ _ _
      refine a_if_eq (tgt := 48) dM_bags_30 (by decide) (fun _ => ?_) (fun c => False.elim (c rfl))
      refine a_iconst (v := -1) dM_bags_48 (by decide) ?_
      exact a_iret dM_bags_49 rfl ⟨rfl, (KP.up KP.refl (by omega)), (KF.refl hR)⟩
theorem q_M_bags1 {S : Nat × (Nat → Int32)} {d n : Nat} {I : mI} {J : mJ} {R : mR} (hn : 122 ≤ n) (hR : m_fin R) {ko nh nl : Nat} (hk : ko < 2) (h1 : f_in (nI ko) 0 (I 100 0 - 1) = 1) (hh : oR I ko 0 = nI nh) (hnh : nh ≤ 6) (hl : oR I ko 1 = nI nl) (hnl : nl ≤ 10) (hW : WFk I ko) (hH : WFh (fun l => oR I ko (9 + l)) nl) {y : Int32} {z : Int32} {t : Int32} (hb : f_in y (nI 1) (nI 99) = 0 ∨ f_in z (nI 1) (nI 10) = 0 ∨ f_in t (-1) (nI nl - nI 1) = 0)  : AW S (d + 4) YM_bags n n (qV I R (.int (-1))) 0 [(0, .ref 95), (1, .int (nI ko)), (2, .int y), (3, .int z), (4, .int t)] [] I J R n := by
  refine a_aload_n 0 dM_bags_0 rfl rfl ?_
  refine a_iconstN (a := 0) dM_bags_1 (by decide) ?_
  refine a_puti dM_bags_2 fl12_90 rfl ly_95 (by omega) ?_
  refine a_iload_n 2 dM_bags_5 rfl rfl ?_
  refine a_iconstN (a := 1) dM_bags_6 (by decide) ?_
  refine a_bipushN (a := 99) dM_bags_7 (by decide) ?_
  refine a_callS (Q' := m_res (some (.int (f_in y (nI 1) (nI 99)))) (m_up I 95 0 (nI 0)) J R) (as := [.int y, .int (nI 1), .int (nI 99)]) (st := []) dM_bags_9 ml12_102 rfl (Nat.le_of_ble_eq_true rfl) (Nat.le_of_ble_eq_true rfl) rfl (Nat.le_refl _) (Nat.le_refl _) c_M_in (m_go ?_)
  show AW _ _ _ _ _ _ _ _ [.int (f_in y (nI 1) (nI 99))] _ _ _ _
  refine a_if_eq (tgt := 48) dM_bags_12 (by decide) (fun c12 => ?_) (fun c12 => ?_)
  · refine a_iconst (v := -1) dM_bags_48 (by decide) ?_
    exact a_iret dM_bags_49 rfl ⟨rfl, (KP.up KP.refl (by omega)), (KF.refl hR)⟩
  · refine a_iload_n 3 dM_bags_15 rfl rfl ?_
    refine a_iconstN (a := 1) dM_bags_16 (by decide) ?_
    refine a_bipushN (a := 10) dM_bags_17 (by decide) ?_
    refine a_callS (Q' := m_res (some (.int (f_in z (nI 1) (nI 10)))) (m_up I 95 0 (nI 0)) J R) (as := [.int z, .int (nI 1), .int (nI 10)]) (st := []) dM_bags_19 ml12_102 rfl (Nat.le_of_ble_eq_true rfl) (Nat.le_of_ble_eq_true rfl) rfl (Nat.le_refl _) (Nat.le_refl _) c_M_in (m_go ?_)
    show AW _ _ _ _ _ _ _ _ [.int (f_in z (nI 1) (nI 10))] _ _ _ _
    refine a_if_eq (tgt := 48) dM_bags_22 (by decide) (fun c22 => ?_) (fun c22 => ?_)
    · refine a_iconst (v := -1) dM_bags_48 (by decide) ?_
      exact a_iret dM_bags_49 rfl ⟨rfl, (KP.up KP.refl (by omega)), (KF.refl hR)⟩
    · refine a_aload_n 0 dM_bags_25 rfl rfl ?_
      refine a_iload_n 1 dM_bags_26 rfl rfl ?_
      refine a_callV (Q' := m_res (some (.int 1)) (hdI (cdI I) ko) J R) (as := [.int (nI ko)]) (st := []) dM_bags_27 ml12_277 rfl (Nat.le_of_ble_eq_true rfl) ly_95 rfl rfl (by decide) (by omega) (Nat.le_of_ble_eq_true rfl) rfl (Nat.le_refl _) (Nat.le_refl _) (c_M_hand (I := cdI I) hn hR (by omega) h1) (m_go ?_)
      show AW _ _ _ _ _ _ _ _ [.int 1] _ _ _ _
      refine a_if_eq (tgt := 48) dM_bags_30 (by decide) (fun c => False.elim (absurd c (by decide))) (fun _ => ?_)
      refine a_iload 4 dM_bags_33 rfl ?_
      refine a_iconst (v := -1) dM_bags_35 (by decide) ?_
      refine a_aload_n 0 dM_bags_36 rfl rfl ?_
      refine a_geti dM_bags_37 fl12_262 rfl ly_95 (by omega) ?_
      rw [show (hdI (cdI I) ko) 95 25 = (nI nl) from (hc25 hl)]
      refine a_iconstN (a := 1) dM_bags_40 (by decide) ?_
      refine a_isub dM_bags_41 ?_
      refine a_callS (Q' := m_res (some (.int (f_in t (-1) ((nI nl) - (nI 1))))) (hdI (cdI I) ko) J R) (as := [.int t, .int (-1), .int ((nI nl) - (nI 1))]) (st := []) dM_bags_42 ml12_102 rfl (Nat.le_of_ble_eq_true rfl) (Nat.le_of_ble_eq_true rfl) rfl (Nat.le_refl _) (Nat.le_refl _) c_M_in (m_go ?_)
      show AW _ _ _ _ _ _ _ _ [.int (f_in t (-1) ((nI nl) - (nI 1)))] _ _ _ _
      refine a_if_ne (tgt := 50) dM_bags_45 (by decide) (fun c45 => ?_) (fun c45 => ?_)
      · exfalso
        rcases hb with hb | hb | hb
        · exact c12 hb
        · exact c22 hb
        · exact c45 hb
      · refine a_iconst (v := -1) dM_bags_48 (by decide) ?_
        exact a_iret dM_bags_49 rfl ⟨rfl, hcP, (KF.refl hR)⟩
def pcN (t : Nat) : Nat → Nat
  | 0 => 0
  | k + 1 => pcN t k + (if t.testBit k = true then 1 else 0)
theorem pcN_le (t : Nat) : ∀ k, pcN t k ≤ k := by
  intro k
  induction k with
  | zero => exact Nat.le_refl _
  | succ k ih =>
    show pcN t k + _ ≤ _
    split <;> omega
theorem pcN_xor {t s : Nat} (h : s &&& t = s) : ∀ k, pcN t k = pcN (t ^^^ s) k + pcN s k := by
  intro k
  induction k with
  | zero => rfl
  | succ k ih =>
    have e : s.testBit k = (s.testBit k && t.testBit k) := by rw [← Nat.testBit_and, h]
    show pcN t k + _ = (pcN (t ^^^ s) k + _) + (pcN s k + _)
    rw [ih, Nat.testBit_xor]
    revert e
    cases s.testBit k <;> cases t.testBit k <;> intro e <;> simp at e ⊢ <;> omega
theorem pcN_pos {s : Nat} (h0 : s ≠ 0) : ∀ k, s < 2 ^ k → 1 ≤ pcN s k := by
  intro k
  induction k with
  | zero => intro h; exact absurd h (by omega)
  | succ k ih =>
    intro h
    show 1 ≤ pcN s k + _
    by_cases q : s < 2 ^ k
    · have := ih q; omega
    · have e : s.testBit k = true := by
        rw [Nat.testBit_eq_decide_div_mod_eq]
        have h2 : s / 2 ^ k = 1 := by
          have := Nat.two_pow_pos k
          refine Nat.div_eq_of_lt_le ?_ ?_
          · omega
          · rw [Nat.pow_succ] at h; omega
        rw [h2]; rfl
      rw [if_pos e]; omega
theorem prt_le {gd : Nat → Prop} {k : Nat} : ∀ m t, t < 2 ^ k → prt gd m t → m ≤ pcN t k := by
  intro m
  induction m with
  | zero => intro t _ _; exact Nat.zero_le _
  | succ m ih =>
    intro t ht ⟨s, h1, h2, _, h4⟩
    have e := pcN_xor h2 k
    have h5 := ih (t ^^^ s) (Nat.lt_of_le_of_lt (xor_le h2) ht) h4
    have h6 := pcN_pos h1 k (Nat.lt_of_le_of_lt (sub_le h2) ht)
    omega
theorem FW_10 {gd : Nat → Prop} {nl P X : Nat} (hPP : 2 ^ nl = P) (hnl : nl ≤ 10) (h : FW gd (P - 1) X) (hX : X < 1000000) : X ≤ 10 := by
  have h0 := Nat.two_pow_pos nl
  rcases h.2.1 with q | q
  · omega
  · have h1 := prt_le (k := nl) X (P - 1) (by omega) q
    have h2 := pcN_le (P - 1) nl
    omega
theorem q_M_bagsF {S : Nat × (Nat → Int32)} {d n : Nat} {I : mI} {J : mJ} {R : mR} (hn : 122 ≤ n) (hR : m_fin R) {ko nh nl : Nat} (hk : ko < 2) (h1 : f_in (nI ko) 0 (I 100 0 - 1) = 1) (hh : oR I ko 0 = nI nh) (hnh : nh ≤ 6) (hl : oR I ko 1 = nI nl) (hnl : nl ≤ 10) (hW : WFk I ko) (hH : WFh (fun l => oR I ko (9 + l)) nl) (hFf : WFfR I ko nl) {fo ms : Nat} (hfo1 : 1 ≤ fo) (hfo9 : fo ≤ 99) (hms1 : 1 ≤ ms) (hms9 : ms ≤ 10) {P : Nat} (hPP : 2 ^ nl = P) (hin : f_in (-1) (-1) (nI nl - nI 1) = 1) {v : Int32} (hv : ∀ X, FW (gdR (hdI (cdI I) ko) ko nh nl fo ms) (P - 1) X → v = (if X < 1000000 then nI X else -1))  : AW S (d + 4) YM_bags n n (qV I R (.int v)) 0 [(0, .ref 95), (1, .int (nI ko)), (2, .int (nI fo)), (3, .int (nI ms)), (4, .int (-1))] [] I J R n := by
  have hFf9 : WFfR (hdI (cdI I) ko) ko nl := by unfold WFfR fwR; rw [hd_oR, cd_oR]; exact hFf
  refine a_aload_n 0 dM_bags_0 rfl rfl ?_
  refine a_iconstN (a := 0) dM_bags_1 (by decide) ?_
  refine a_puti dM_bags_2 fl12_90 rfl ly_95 (by omega) ?_
  refine a_iload_n 2 dM_bags_5 rfl rfl ?_
  refine a_iconstN (a := 1) dM_bags_6 (by decide) ?_
  refine a_bipushN (a := 99) dM_bags_7 (by decide) ?_
  refine a_callS (Q' := m_res (some (.int 1)) (m_up I 95 0 (nI 0)) J R) (as := [.int (nI fo), .int (nI 1), .int (nI 99)]) (st := []) dM_bags_9 ml12_102 rfl (Nat.le_of_ble_eq_true rfl) (Nat.le_of_ble_eq_true rfl) rfl (Nat.le_refl _) (Nat.le_refl _) (c_M_inE (f_in_n (lo := 1) hfo1 hfo9 (by omega))) (m_go ?_)
  show AW _ _ _ _ _ _ _ _ [.int 1] _ _ _ _
  refine a_if_eq (tgt := 48) dM_bags_12 (by decide) (fun c => False.elim (absurd c (by decide))) (fun _ => ?_)
  refine a_iload_n 3 dM_bags_15 rfl rfl ?_
  refine a_iconstN (a := 1) dM_bags_16 (by decide) ?_
  refine a_bipushN (a := 10) dM_bags_17 (by decide) ?_
  refine a_callS (Q' := m_res (some (.int 1)) (m_up I 95 0 (nI 0)) J R) (as := [.int (nI ms), .int (nI 1), .int (nI 10)]) (st := []) dM_bags_19 ml12_102 rfl (Nat.le_of_ble_eq_true rfl) (Nat.le_of_ble_eq_true rfl) rfl (Nat.le_refl _) (Nat.le_refl _) (c_M_inE (f_in_n (lo := 1) hms1 hms9 (by omega))) (m_go ?_)
  show AW _ _ _ _ _ _ _ _ [.int 1] _ _ _ _
  refine a_if_eq (tgt := 48) dM_bags_22 (by decide) (fun c => False.elim (absurd c (by decide))) (fun _ => ?_)
  refine a_aload_n 0 dM_bags_25 rfl rfl ?_
  refine a_iload_n 1 dM_bags_26 rfl rfl ?_
  refine a_callV (Q' := m_res (some (.int 1)) (hdI (cdI I) ko) J R) (as := [.int (nI ko)]) (st := []) dM_bags_27 ml12_277 rfl (Nat.le_of_ble_eq_true rfl) ly_95 rfl rfl (by decide) (by omega) (Nat.le_of_ble_eq_true rfl) rfl (Nat.le_refl _) (Nat.le_refl _) (c_M_hand (I := cdI I) hn hR (by omega) h1) (m_go ?_)
  show AW _ _ _ _ _ _ _ _ [.int 1] _ _ _ _
  refine a_if_eq (tgt := 48) dM_bags_30 (by decide) (fun c => False.elim (absurd c (by decide))) (fun _ => ?_)
  refine a_iload 4 dM_bags_33 rfl ?_
  refine a_iconst (v := -1) dM_bags_35 (by decide) ?_
  refine a_aload_n 0 dM_bags_36 rfl rfl ?_
  refine a_geti dM_bags_37 fl12_262 rfl ly_95 (by omega) ?_
  rw [show (hdI (cdI I) ko) 95 25 = (nI nl) from (hc25 hl)]
  refine a_iconstN (a := 1) dM_bags_40 (by decide) ?_
  refine a_isub dM_bags_41 ?_
  refine a_callS (Q' := m_res (some (.int 1)) (hdI (cdI I) ko) J R) (as := [.int (-1), .int (-1), .int ((nI nl) - (nI 1))]) (st := []) dM_bags_42 ml12_102 rfl (Nat.le_of_ble_eq_true rfl) (Nat.le_of_ble_eq_true rfl) rfl (Nat.le_refl _) (Nat.le_refl _) (c_M_inE hin) (m_go ?_)
  show AW _ _ _ _ _ _ _ _ [.int 1] _ _ _ _
  refine a_if_ne (tgt := 50) dM_bags_45 (by decide) (fun _ => ?_) (fun c => False.elim (absurd c (by decide)))
  refine a_aload_n 0 dM_bags_50 rfl rfl ?_
  refine a_iload_n 2 dM_bags_51 rfl rfl ?_
  refine a_iload_n 3 dM_bags_52 rfl rfl ?_
  refine a_callV (Q' := fun v2 I2 J2 R2 => ∃ (G F : Nat → Int32) (X : Nat), (∀ j, j < P → G j = gvR (hdI (cdI I) ko) ko nh nl fo ms j) ∧ FW (gdR (hdI (cdI I) ko) ko nh nl fo ms) (P - 1) X ∧ v2 = some (.int (if X < 1000000 then nI X else -1)) ∧ I2 = (m_row (m_row (hdI (cdI I) ko) 111 G) 112 F) ∧ J2 = J ∧ R2 = R) (as := [.int (nI fo), .int (nI ms)]) (st := []) dM_bags_53 ml12_423 rfl (Nat.le_of_ble_eq_true rfl) ly_95 rfl rfl (by decide) (by omega) (Nat.le_of_ble_eq_true rfl) rfl (Nat.le_refl _) (Nat.le_refl _) (b_M_findDays (S := S) (d := d) (n := n) (J := J) (R := R) (I := (hdI (cdI I) ko)) hn hR hd_23 (by omega) (hc24 hh) hnh (hc25 hl) hnl hW.hd hFf9 (fo := fo) (ms := ms) hfo9 hms9 hPP (fun G F X h1 h2 => ⟨G, F, X, h1, h2, rfl, rfl, rfl, rfl⟩)) ?_
  intro v2 I2 J2 R2 ⟨G, F, X, hG, hX, e1, e2, e3, e4⟩
  subst e1
  rw [e2, e3, e4]
  show AW _ _ _ _ _ _ _ _ [.int (if X < 1000000 then nI X else -1)] _ _ _ _
  refine a_istore (lv' := [(5, .int (if X < 1000000 then nI X else -1)), (0, .ref 95), (1, .int (nI ko)), (2, .int (nI fo)), (3, .int (nI ms)), (4, .int (-1))]) dM_bags_56 (by decide) rfl ?_
  refine a_iload 5 dM_bags_58 rfl ?_
  refine a_iconst (v := -1) dM_bags_60 (by decide) ?_
  refine a_icmp_eq (tgt := 70) dM_bags_61 (by decide) (fun _ => ?_) (fun c => False.elim (c rfl))
  refine a_iload 0 dM_bags_70 rfl ?_
  refine a_goto (tgt := 83) dM_bags_72 (by decide) ?_
  exact a_iret dM_bags_83 rfl ⟨by rw [hv X hX], (KP.row (KP.row hcP (by omega)) (by omega)), KF.refl hR⟩
theorem q_M_bagsD {S : Nat × (Nat → Int32)} {d n : Nat} {I : mI} {J : mJ} {R : mR} (hn : 122 ≤ n) (hR : m_fin R) {ko nh nl : Nat} (hk : ko < 2) (h1 : f_in (nI ko) 0 (I 100 0 - 1) = 1) (hh : oR I ko 0 = nI nh) (hnh : nh ≤ 6) (hl : oR I ko 1 = nI nl) (hnl : nl ≤ 10) (hW : WFk I ko) (hH : WFh (fun l => oR I ko (9 + l)) nl) (hFf : WFfR I ko nl) {fo ms : Nat} (hfo1 : 1 ≤ fo) (hfo9 : fo ≤ 99) (hms1 : 1 ≤ ms) (hms9 : ms ≤ 10) {P : Nat} (hPP : 2 ^ nl = P) {l : Nat} (hln : l < nl) (hin : f_in (nI l) (-1) (nI nl - nI 1) = 1) {v : Int32} (hv1 : ∀ X, FW (gdR (hdI (cdI I) ko) ko nh nl fo ms) (P - 1) X → 1000000 ≤ X → v = -1) (hv2 : ∀ X, FW (gdR (hdI (cdI I) ko) ko nh nl fo ms) (P - 1) X → X < 1000000 → ∀ v2, DY (gdR (hdI (cdI I) ko) ko nh nl fo ms) nl X l v2 → v2 = v)  : AW S (d + 5) YM_bags n n (qV I R (.int v)) 0 [(0, .ref 95), (1, .int (nI ko)), (2, .int (nI fo)), (3, .int (nI ms)), (4, .int (nI l))] [] I J R n := by
  have hFf9 : WFfR (hdI (cdI I) ko) ko nl := by unfold WFfR fwR; rw [hd_oR, cd_oR]; exact hFf
  refine a_aload_n 0 dM_bags_0 rfl rfl ?_
  refine a_iconstN (a := 0) dM_bags_1 (by decide) ?_
  refine a_puti dM_bags_2 fl12_90 rfl ly_95 (by omega) ?_
  refine a_iload_n 2 dM_bags_5 rfl rfl ?_
  refine a_iconstN (a := 1) dM_bags_6 (by decide) ?_
  refine a_bipushN (a := 99) dM_bags_7 (by decide) ?_
  refine a_callS (Q' := m_res (some (.int 1)) (m_up I 95 0 (nI 0)) J R) (as := [.int (nI fo), .int (nI 1), .int (nI 99)]) (st := []) dM_bags_9 ml12_102 rfl (Nat.le_of_ble_eq_true rfl) (Nat.le_of_ble_eq_true rfl) rfl (Nat.le_refl _) (Nat.le_refl _) (c_M_inE (f_in_n (lo := 1) hfo1 hfo9 (by omega))) (m_go ?_)
  show AW _ _ _ _ _ _ _ _ [.int 1] _ _ _ _
  refine a_if_eq (tgt := 48) dM_bags_12 (by decide) (fun c => False.elim (absurd c (by decide))) (fun _ => ?_)
  refine a_iload_n 3 dM_bags_15 rfl rfl ?_
  refine a_iconstN (a := 1) dM_bags_16 (by decide) ?_
  refine a_bipushN (a := 10) dM_bags_17 (by decide) ?_
  refine a_callS (Q' := m_res (some (.int 1)) (m_up I 95 0 (nI 0)) J R) (as := [.int (nI ms), .int (nI 1), .int (nI 10)]) (st := []) dM_bags_19 ml12_102 rfl (Nat.le_of_ble_eq_true rfl) (Nat.le_of_ble_eq_true rfl) rfl (Nat.le_refl _) (Nat.le_refl _) (c_M_inE (f_in_n (lo := 1) hms1 hms9 (by omega))) (m_go ?_)
  show AW _ _ _ _ _ _ _ _ [.int 1] _ _ _ _
  refine a_if_eq (tgt := 48) dM_bags_22 (by decide) (fun c => False.elim (absurd c (by decide))) (fun _ => ?_)
  refine a_aload_n 0 dM_bags_25 rfl rfl ?_
  refine a_iload_n 1 dM_bags_26 rfl rfl ?_
  refine a_callV (Q' := m_res (some (.int 1)) (hdI (cdI I) ko) J R) (as := [.int (nI ko)]) (st := []) dM_bags_27 ml12_277 rfl (Nat.le_of_ble_eq_true rfl) ly_95 rfl rfl (by decide) (by omega) (Nat.le_of_ble_eq_true rfl) rfl (Nat.le_refl _) (Nat.le_refl _) (c_M_hand (I := cdI I) hn hR (by omega) h1) (m_go ?_)
  show AW _ _ _ _ _ _ _ _ [.int 1] _ _ _ _
  refine a_if_eq (tgt := 48) dM_bags_30 (by decide) (fun c => False.elim (absurd c (by decide))) (fun _ => ?_)
  refine a_iload 4 dM_bags_33 rfl ?_
  refine a_iconst (v := -1) dM_bags_35 (by decide) ?_
  refine a_aload_n 0 dM_bags_36 rfl rfl ?_
  refine a_geti dM_bags_37 fl12_262 rfl ly_95 (by omega) ?_
  rw [show (hdI (cdI I) ko) 95 25 = (nI nl) from (hc25 hl)]
  refine a_iconstN (a := 1) dM_bags_40 (by decide) ?_
  refine a_isub dM_bags_41 ?_
  refine a_callS (Q' := m_res (some (.int 1)) (hdI (cdI I) ko) J R) (as := [.int (nI l), .int (-1), .int ((nI nl) - (nI 1))]) (st := []) dM_bags_42 ml12_102 rfl (Nat.le_of_ble_eq_true rfl) (Nat.le_of_ble_eq_true rfl) rfl (Nat.le_refl _) (Nat.le_refl _) (c_M_inE hin) (m_go ?_)
  show AW _ _ _ _ _ _ _ _ [.int 1] _ _ _ _
  refine a_if_ne (tgt := 50) dM_bags_45 (by decide) (fun _ => ?_) (fun c => False.elim (absurd c (by decide)))
  refine a_aload_n 0 dM_bags_50 rfl rfl ?_
  refine a_iload_n 2 dM_bags_51 rfl rfl ?_
  refine a_iload_n 3 dM_bags_52 rfl rfl ?_
  refine a_callV (Q' := fun v2 I2 J2 R2 => ∃ (G F : Nat → Int32) (X : Nat), (∀ j, j < P → G j = gvR (hdI (cdI I) ko) ko nh nl fo ms j) ∧ FW (gdR (hdI (cdI I) ko) ko nh nl fo ms) (P - 1) X ∧ v2 = some (.int (if X < 1000000 then nI X else -1)) ∧ I2 = (m_row (m_row (hdI (cdI I) ko) 111 G) 112 F) ∧ J2 = J ∧ R2 = R) (as := [.int (nI fo), .int (nI ms)]) (st := []) dM_bags_53 ml12_423 rfl (Nat.le_of_ble_eq_true rfl) ly_95 rfl rfl (by decide) (by omega) (Nat.le_of_ble_eq_true rfl) rfl (Nat.le_refl _) (Nat.le_refl _) (b_M_findDays (S := S) (d := d + 1) (n := n) (J := J) (R := R) (I := (hdI (cdI I) ko)) hn hR hd_23 (by omega) (hc24 hh) hnh (hc25 hl) hnl hW.hd hFf9 (fo := fo) (ms := ms) hfo9 hms9 hPP (fun G F X h1 h2 => ⟨G, F, X, h1, h2, rfl, rfl, rfl, rfl⟩)) ?_
  intro v2 I2 J2 R2 ⟨G, F, X, hG, hX, e1, e2, e3, e4⟩
  subst e1
  rw [e2, e3, e4]
  show AW _ _ _ _ _ _ _ _ [.int (if X < 1000000 then nI X else -1)] _ _ _ _
  by_cases hX6 : X < 1000000
  · rw [if_pos hX6]
    have hX10 := FW_10 hPP hnl hX hX6
    refine a_istore (lv' := [(5, .int (nI X)), (0, .ref 95), (1, .int (nI ko)), (2, .int (nI fo)), (3, .int (nI ms)), (4, .int (nI l))]) dM_bags_56 (by decide) rfl ?_
    refine a_iload 5 dM_bags_58 rfl ?_
    refine a_iconst (v := -1) dM_bags_60 (by decide) ?_
    refine a_icmp_eq (tgt := 70) dM_bags_61 (by decide) (fun c => False.elim (nI_m1 (by omega) c)) (fun _ => ?_)
    refine a_iload 0 dM_bags_64 rfl ?_
    refine a_iconst (v := -1) dM_bags_66 (by decide) ?_
    refine a_icmp_ne (tgt := 75) dM_bags_67 (by decide) (fun _ => ?_) (fun c => False.elim (nI_m1 (by omega) c))
    refine a_aload_n 1 dM_bags_75 rfl rfl ?_
    refine a_iload 5 dM_bags_76 rfl ?_
    refine a_iload 0 dM_bags_78 rfl ?_
    refine a_callV (Q' := fun v2 I2 J2 R2 => ∃ (v3 : Int32) (B L N : Nat → Int32), DY (gdR (hdI (cdI I) ko) ko nh nl fo ms) nl X l v3 ∧ v2 = some (.int v3) ∧ I2 = m3 (m_row (m_row (hdI (cdI I) ko) 111 G) 112 F) B L N ∧ J2 = J ∧ R2 = R) (as := [.int (nI l), .int (nI X)]) (st := []) dM_bags_80 ml12_426 rfl (Nat.le_of_ble_eq_true rfl) ly_95 rfl rfl (by decide) (by omega) (Nat.le_of_ble_eq_true rfl) rfl (Nat.le_refl _) (Nat.le_refl _) (b_M_dayOf (S := S) (d := d + 3) (n := n) (J := J) (R := R) (I := (m_row (m_row (hdI (cdI I) ko) 111 G) 112 F)) (nh := nh) (nl := nl) (fo := fo) (ms := ms) (days := X) (l0 := l) hn hR (hd_23 (I := cdI I)) (by omega) (hc24 hh) hnh (hc25 hl) hnl hW.hd hPP hln hX10 (fun j hj => (hG j hj).trans (gvR_eq (I := (hdI (cdI I) ko)) (I' := (m_row (m_row (hdI (cdI I) ko) 111 G) 112 F)) rfl rfl).symm) (fun v3 B L N h3 => ⟨v3, B, L, N, by rw [gdR_fe (I := (hdI (cdI I) ko)) (I' := (m_row (m_row (hdI (cdI I) ko) 111 G) 112 F)) rfl rfl] at h3; exact h3, rfl, rfl, rfl, rfl⟩)) ?_
    intro v2 I2 J2 R2 ⟨v3, B, L, N, h3, e1, e2, e3, e4⟩
    subst e1
    rw [e2, e3, e4, hv2 X hX hX6 v3 h3]
    show AW _ _ _ _ _ _ _ _ [.int v] _ _ _ _
    exact a_iret dM_bags_83 rfl ⟨rfl, (KP.row (KP.row (KP.row (KP.row (KP.row hcP (by omega)) (by omega)) (by omega)) (by omega)) (by omega)), KF.refl hR⟩
  · rw [if_neg hX6]
    refine a_istore (lv' := [(5, .int (-1)), (0, .ref 95), (1, .int (nI ko)), (2, .int (nI fo)), (3, .int (nI ms)), (4, .int (nI l))]) dM_bags_56 (by decide) rfl ?_
    refine a_iload 5 dM_bags_58 rfl ?_
    refine a_iconst (v := -1) dM_bags_60 (by decide) ?_
    refine a_icmp_eq (tgt := 70) dM_bags_61 (by decide) (fun c => False.elim (nI_m1 (by omega) c)) (fun _ => ?_)
    refine a_iload 0 dM_bags_64 rfl ?_
    refine a_iconst (v := -1) dM_bags_66 (by decide) ?_
    refine a_icmp_ne (tgt := 75) dM_bags_67 (by decide) (fun c => False.elim (c rfl)) (fun _ => ?_)
    refine a_iload 0 dM_bags_70 rfl ?_
    refine a_goto (tgt := 83) dM_bags_72 (by decide) ?_
    exact a_iret dM_bags_83 rfl ⟨by rw [hv1 X hX (by omega)], (KP.row (KP.row hcP (by omega)) (by omega)), KF.refl hR⟩
