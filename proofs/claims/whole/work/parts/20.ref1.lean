def f_in (v lo hi : Int32) : Int32 := if v < lo then 0 else if hi < v then 0 else 1
def f_has (s k : Int32) : Int32 := if ((s >>> (k &&& 31)) &&& 1) = 1 then 1 else 0
def f_gr (a b : Int32) : Int32 := if b < a then a else b
def f_le (a b : Int32) : Int32 := if a < b then a else b
/-- how many of the first k bits are set -/
def onesN (s : Int32) : Nat → Nat
  | 0 => 0
  | k + 1 => onesN s k + (if f_has s (nI k) = 0 then 0 else 1)
theorem onesN_le (s : Int32) (k : Nat) : onesN s k ≤ k := by
  induction k with
  | zero => exact Nat.le_refl _
  | succ k ih => simp only [onesN]; split <;> omega
theorem m_nz {x : Int32} (h : x = 0 ∨ x = 1) : narrow .boolean (.int x) = .int x := by rcases h with rfl | rfl <;> rfl
theorem nI_one : nI 1 = 1 := rfl
theorem nI_two : nI 2 = 2 := rfl
theorem nI_zero : nI 0 = 0 := rfl
theorem f_in_01 (v lo hi : Int32) : f_in v lo hi = 0 ∨ f_in v lo hi = 1 := by unfold f_in; split; exact Or.inl rfl; split; exact Or.inl rfl; exact Or.inr rfl
theorem f_has_01 (s k : Int32) : f_has s k = 0 ∨ f_has s k = 1 := by unfold f_has; split; exact Or.inr rfl; exact Or.inl rfl
theorem f_in_n {a lo hi : Nat} (h1 : lo ≤ a) (h2 : a ≤ hi) (h3 : hi < 2 ^ 31) : f_in (nI a) (nI lo) (nI hi) = 1 := by
  unfold f_in
  rw [if_neg (nI_nlt h1 (by omega)), if_neg (nI_nlt h2 (by omega))]
/-- the first m places of a row, set anew -/
def m_fill (f g : Nat → Int32) (m : Nat) : Nat → Int32 := fun j => if j < m then f j else g j
theorem m_fill_0 (f g : Nat → Int32) : m_fill f g 0 = g := by funext j; simp [m_fill]
theorem m_fill_s (f g : Nat → Int32) (m : Nat) : va_up (m_fill f g m) m (f m) = m_fill f g (m + 1) := by
  funext j
  unfold va_up m_fill
  by_cases h : j = m
  · subst h; simp
  · rw [if_neg h]
    by_cases h2 : j < m
    · rw [if_pos h2, if_pos (by omega)]
    · rw [if_neg h2, if_neg (by omega)]
theorem m_up_r {α : Type} {I : Nat → Nat → α} {a k : Nat} {g : Nat → α} {x : α} : m_up (m_row I a g) a k x = m_row I a (va_up g k x) := by
  funext i
  by_cases h : i = a
  · subst h; simp [m_up, m_row]
  · simp [m_up, m_row, h]
theorem m_row_self {α : Type} {I : Nat → Nat → α} {a : Nat} : m_row I a (I a) = I := by
  funext i
  by_cases h : i = a
  · subst h; simp [m_row]
  · simp [m_row, h]
theorem m_row_row {α : Type} {I : Nat → Nat → α} {a : Nat} {f g : Nat → α} : m_row (m_row I a f) a g = m_row I a g := by
  funext i
  by_cases h : i = a
  · subst h; simp [m_row]
  · simp [m_row, h]
theorem m_up_comm {α : Type} {I : Nat → Nat → α} {a b k : Nat} {g : Nat → α} {x : α} (h : b ≠ a) : m_up (m_row I a g) b k x = m_row (m_up I b k x) a g := by
  funext i
  by_cases h1 : i = a
  · subst h1; simp [m_up, m_row, h.symm]
  · by_cases h2 : i = b
    · subst h2; simp [m_up, m_row, h1]
    · simp [m_up, m_row, h1, h2]
theorem c_M_in {S : Nat × (Nat → Int32)} {d n : Nat} {I : mI} {J : mJ} {R : mR} {v lo hi : Int32} : RUN S d YM_in [.int v, .int lo, .int hi] I J R n (some (.int (f_in v lo hi))) I J R n := by
  show AW S _ YM_in n n _ 0 [(0, .int v), (1, .int lo), (2, .int hi)] [] I J R n
  refine a_iload_n 0 dM_in_0 rfl rfl ?_
  refine a_iload_n 1 dM_in_1 rfl rfl ?_
  refine a_icmp_lt (tgt := 14) dM_in_2 (by decide) (fun c2 => ?_) (fun c2 => ?_)
  · refine a_iconst (v := 0) dM_in_14 (by decide) ?_
    exact a_zret dM_in_15 rfl (by rfl) ⟨by simp [f_in, *], rfl, rfl, rfl⟩
  · refine a_iload_n 0 dM_in_5 rfl rfl ?_
    refine a_iload_n 2 dM_in_6 rfl rfl ?_
    refine a_icmp_gt (tgt := 14) dM_in_7 (by decide) (fun c7 => ?_) (fun c7 => ?_)
    · refine a_iconst (v := 0) dM_in_14 (by decide) ?_
      exact a_zret dM_in_15 rfl (by rfl) ⟨by simp [f_in, *], rfl, rfl, rfl⟩
    · refine a_iconst (v := 1) dM_in_10 (by decide) ?_
      refine a_goto (tgt := 15) dM_in_11 (by decide) ?_
      exact a_zret dM_in_15 rfl (by rfl) ⟨by simp [f_in, *], rfl, rfl, rfl⟩
theorem c_M_has {S : Nat × (Nat → Int32)} {d n : Nat} {I : mI} {J : mJ} {R : mR} {s k : Int32} : RUN S d YM_has [.int s, .int k] I J R n (some (.int (f_has s k))) I J R n := by
  show AW S _ YM_has n n _ 0 [(0, .int s), (1, .int k)] [] I J R n
  refine a_iload_n 0 dM_has_0 rfl rfl ?_
  refine a_iload_n 1 dM_has_1 rfl rfl ?_
  refine a_ishr dM_has_2 ?_
  refine a_iconst (v := 1) dM_has_3 (by decide) ?_
  refine a_iand dM_has_4 ?_
  refine a_iconst (v := 1) dM_has_5 (by decide) ?_
  refine a_icmp_ne (tgt := 13) dM_has_6 (by decide) (fun c6 => ?_) (fun c6 => ?_)
  · refine a_iconst (v := 0) dM_has_13 (by decide) ?_
    exact a_zret dM_has_14 rfl (by rfl) ⟨by simp [f_has, *], rfl, rfl, rfl⟩
  · refine a_iconst (v := 1) dM_has_9 (by decide) ?_
    refine a_goto (tgt := 14) dM_has_10 (by decide) ?_
    exact a_zret dM_has_14 rfl (by rfl) ⟨by simp [f_has, *], rfl, rfl, rfl⟩
theorem c_M_greater {S : Nat × (Nat → Int32)} {d n : Nat} {I : mI} {J : mJ} {R : mR} {a b : Int32} : RUN S d YM_greater [.int a, .int b] I J R n (some (.int (f_gr a b))) I J R n := by
  show AW S _ YM_greater n n _ 0 [(0, .int a), (1, .int b)] [] I J R n
  refine a_iload_n 0 dM_greater_0 rfl rfl ?_
  refine a_iload_n 1 dM_greater_1 rfl rfl ?_
  refine a_icmp_le (tgt := 9) dM_greater_2 (by decide) (fun c2 => ?_) (fun c2 => ?_)
  · refine a_iload_n 1 dM_greater_9 rfl rfl ?_
    exact a_iret dM_greater_10 rfl ⟨by unfold f_gr; first | rw [if_pos (Int32.not_le.mp c2)] | rw [if_neg (Int32.not_lt.mpr c2)], rfl, rfl, rfl⟩
  · refine a_iload_n 0 dM_greater_5 rfl rfl ?_
    refine a_goto (tgt := 10) dM_greater_6 (by decide) ?_
    exact a_iret dM_greater_10 rfl ⟨by unfold f_gr; first | rw [if_pos (Int32.not_le.mp c2)] | rw [if_neg (Int32.not_lt.mpr c2)], rfl, rfl, rfl⟩
theorem c_M_lesser {S : Nat × (Nat → Int32)} {d n : Nat} {I : mI} {J : mJ} {R : mR} {a b : Int32} : RUN S d YM_lesser [.int a, .int b] I J R n (some (.int (f_le a b))) I J R n := by
  show AW S _ YM_lesser n n _ 0 [(0, .int a), (1, .int b)] [] I J R n
  refine a_iload_n 0 dM_lesser_0 rfl rfl ?_
  refine a_iload_n 1 dM_lesser_1 rfl rfl ?_
  refine a_icmp_ge (tgt := 9) dM_lesser_2 (by decide) (fun c2 => ?_) (fun c2 => ?_)
  · refine a_iload_n 1 dM_lesser_9 rfl rfl ?_
    exact a_iret dM_lesser_10 rfl ⟨by unfold f_le; first | rw [if_pos (Int32.not_le.mp c2)] | rw [if_neg (Int32.not_lt.mpr c2)], rfl, rfl, rfl⟩
  · refine a_iload_n 0 dM_lesser_5 rfl rfl ?_
    refine a_goto (tgt := 10) dM_lesser_6 (by decide) ?_
    exact a_iret dM_lesser_10 rfl ⟨by unfold f_le; first | rw [if_pos (Int32.not_le.mp c2)] | rw [if_neg (Int32.not_lt.mpr c2)], rfl, rfl, rfl⟩
theorem l_M_ones {S : Nat × (Nat → Int32)} {d n : Nat} {I : mI} {J : mJ} {R : mR} {s : Int32} {Q : Option Value → mI → mJ → mR → Prop} (hQ : Q (some (.int (nI (onesN s 10)))) I J R) : ∀ m k, k + m = 10 → AW S (d + 1) YM_ones n n Q 4 [(2, .int (nI k)), (1, .int (nI (onesN s k))), (0, .int s)] [] I J R n := by
  intro m
  induction m with
  | zero =>
    intro k hk
    rw [show k = 10 by omega]
    refine a_iload_n 0 dM_ones_4 rfl rfl ?_
    refine a_bipushN (a := 10) dM_ones_5 (by decide) ?_
    refine a_icmp_geN (tgt := 32) dM_ones_7 (by decide) (by omega) (by omega) (fun _ => ?_) (fun c => False.elim (by omega))
    refine a_iload_n 1 dM_ones_32 rfl rfl ?_
    exact a_iret dM_ones_33 rfl hQ
  | succ m ih =>
    intro k hk
    refine a_iload_n 0 dM_ones_4 rfl rfl ?_
    refine a_bipushN (a := 10) dM_ones_5 (by decide) ?_
    refine a_icmp_geN (tgt := 32) dM_ones_7 (by decide) (by omega) (by omega) (fun c => False.elim (by omega)) (fun _ => ?_)
    refine a_iload_n 1 dM_ones_10 rfl rfl ?_
    refine a_iload_n 2 dM_ones_11 rfl rfl ?_
    refine a_iload_n 0 dM_ones_12 rfl rfl ?_
    refine a_callS (Q' := m_res (some (.int (f_has s (nI k)))) I J R) (as := [.int s, .int (nI k)]) (st := [.int (nI (onesN s k))]) dM_ones_13 ml12_94 rfl (Nat.le_of_ble_eq_true rfl) (Nat.le_of_ble_eq_true rfl) rfl (Nat.le_refl _) (Nat.le_refl _) c_M_has (m_go ?_)
    show AW _ _ _ _ _ _ _ _ [.int (f_has s (nI k)), .int (nI (onesN s k))] _ _ _ _
    refine a_if_eq (tgt := 23) dM_ones_16 (by decide) (fun c16 => ?_) (fun c16 => ?_)
    · refine a_iconstN (a := 0) dM_ones_23 (by decide) ?_
      refine a_iaddN (a := (onesN s k)) (b := 0) dM_ones_24 ?_
      refine a_istore_n (lv' := [(1, .int (nI ((onesN s k) + 0))), (2, .int (nI k)), (0, .int s)]) dM_ones_25 rfl (by decide) rfl ?_
      refine a_iincN (lv' := [(2, .int (nI (k + 1))), (1, .int (nI ((onesN s k) + 0))), (0, .int s)]) (j := 1) dM_ones_26 rfl (by decide) rfl ?_
      refine a_goto (tgt := 4) dM_ones_29 (by decide) ?_
      refine a_locs (lv' := [(2, .int (nI (k + 1))), (1, .int (nI ((onesN s k) + 0))), (0, .int s)]) [0, 1, 2] rfl ?_
      have hh := ih (k + 1) (by omega)
      rw [show onesN s (k + 1) = onesN s k + _ from by simp only [onesN, c16, if_true, if_false]; try rfl] at hh
      exact hh
    · refine a_iconstN (a := 1) dM_ones_19 (by decide) ?_
      refine a_goto (tgt := 24) dM_ones_20 (by decide) ?_
      refine a_iaddN (a := (onesN s k)) (b := 1) dM_ones_24 ?_
      refine a_istore_n (lv' := [(1, .int (nI ((onesN s k) + 1))), (2, .int (nI k)), (0, .int s)]) dM_ones_25 rfl (by decide) rfl ?_
      refine a_iincN (lv' := [(2, .int (nI (k + 1))), (1, .int (nI ((onesN s k) + 1))), (0, .int s)]) (j := 1) dM_ones_26 rfl (by decide) rfl ?_
      refine a_goto (tgt := 4) dM_ones_29 (by decide) ?_
      refine a_locs (lv' := [(2, .int (nI (k + 1))), (1, .int (nI ((onesN s k) + 1))), (0, .int s)]) [0, 1, 2] rfl ?_
      have hh := ih (k + 1) (by omega)
      rw [show onesN s (k + 1) = onesN s k + _ from by simp only [onesN, c16, if_true, if_false]; try rfl] at hh
      exact hh
theorem c_M_ones {S : Nat × (Nat → Int32)} {d n : Nat} {I : mI} {J : mJ} {R : mR} {s : Int32} : RUN S (d + 1) YM_ones [.int s] I J R n (some (.int (nI (onesN s 10)))) I J R n := by
  show AW S _ YM_ones n n _ 0 [(0, .int s)] [] I J R n
  refine a_iconstN (a := 0) dM_ones_0 (by decide) ?_
  refine a_istore_n (lv' := [(1, .int (nI 0)), (0, .int s)]) dM_ones_1 rfl (by decide) rfl ?_
  refine a_iconstN (a := 0) dM_ones_2 (by decide) ?_
  refine a_istore_n (lv' := [(2, .int (nI 0)), (1, .int (nI 0)), (0, .int s)]) dM_ones_3 rfl (by decide) rfl ?_
  exact l_M_ones ⟨rfl, rfl, rfl, rfl⟩ 10 0 rfl
theorem nI_nm1 {a : Nat} (h : a < 2 ^ 31) : ¬ nI a = -1 := by
  intro c
  have := nI_toInt h
  rw [c] at this
  have e : (-1 : Int32).toInt = -1 := rfl
  omega
theorem c_M_of {S : Nat × (Nat → Int32)} {d n : Nat} {I : mI} {J : mJ} {R : mR} {ko at0 : Nat} (hn : 122 ≤ n) (hR : m_fin R) (ho : I 95 23 = nI ko) (hk : 75 * ko + at0 < 600) : RUN S d YM_of [.ref 95, .int (nI at0)] I J R n (some (.int (I 101 (75 * ko + at0)))) I J R n := by
  show AW S _ YM_of n n _ 0 [(0, .ref 95), (1, .int (nI at0))] [] I J R n
  refine a_aload_n 0 dM_of_0 rfl rfl ?_
  refine a_geta (r := 101) dM_of_1 fl12_26 rfl ly_95 (by omega) (rf_95_6 hR) ?_
  refine a_bipushN (a := 75) dM_of_4 (by decide) ?_
  refine a_aload_n 0 dM_of_6 rfl rfl ?_
  refine a_geti dM_of_7 fl12_252 rfl ly_95 (by omega) ?_
  rw [show I 95 23 = (nI ko) from ho]
  refine a_imulN (a := 75) (b := ko) dM_of_10 ?_
  refine a_iload_n 1 dM_of_11 rfl rfl ?_
  refine a_iaddN (a := (75 * ko)) (b := at0) dM_of_12 ?_
  refine a_ialdN (a := ((75 * ko) + at0)) dM_of_13 ly_101 (by omega) (by omega) (by decide) ?_
  exact a_iret dM_of_14 rfl ⟨rfl, rfl, rfl, rfl⟩
theorem c_M_is {S : Nat × (Nat → Int32)} {d n : Nat} {I : mI} {J : mJ} {R : mR} {s : Nat} {k : Int32} (hn : 122 ≤ n) (hR : m_fin R) (hs : s < 3) : RUN S (d + 1) YM_is [.ref 95, .int (nI s), .int k] I J R n (some (.int (f_in k 0 (I 100 s - 1)))) I J R n := by
  show AW S _ YM_is n n _ 0 [(0, .ref 95), (1, .int (nI s)), (2, .int k)] [] I J R n
  refine a_iload_n 2 dM_is_0 rfl rfl ?_
  refine a_iconst (v := 0) dM_is_1 (by decide) ?_
  refine a_aload_n 0 dM_is_2 rfl rfl ?_
  refine a_geta (r := 100) dM_is_3 fl12_23 rfl ly_95 (by omega) (rf_95_5 hR) ?_
  refine a_iload_n 1 dM_is_6 rfl rfl ?_
  refine a_ialdN (a := s) dM_is_7 ly_100 (by omega) (by omega) (by decide) ?_
  refine a_iconst (v := 1) dM_is_8 (by decide) ?_
  refine a_isub dM_is_9 ?_
  refine a_callS (Q' := m_res (some (.int (f_in k 0 ((I 100 s) - 1)))) I J R) (as := [.int k, .int 0, .int ((I 100 s) - 1)]) (st := []) dM_is_10 ml12_102 rfl (Nat.le_of_ble_eq_true rfl) (Nat.le_of_ble_eq_true rfl) rfl (Nat.le_refl _) (Nat.le_refl _) c_M_in (m_go ?_)
  show AW _ _ _ _ _ _ _ _ [.int (f_in k 0 ((I 100 s) - 1))] _ _ _ _
  exact a_zret dM_is_13 rfl (m_nz (f_in_01 _ _ _)) ⟨rfl, rfl, rfl, rfl⟩
theorem c_M_isHouse {S : Nat × (Nat → Int32)} {d n : Nat} {I : mI} {J : mJ} {R : mR} {h : Int32} (hn : 122 ≤ n) : RUN S (d + 1) YM_isHouse [.ref 95, .int h] I J R n (some (.int (f_in h 0 (I 95 24 - 1)))) I J R n := by
  show AW S _ YM_isHouse n n _ 0 [(0, .ref 95), (1, .int h)] [] I J R n
  refine a_iload_n 1 dM_isHouse_0 rfl rfl ?_
  refine a_iconst (v := 0) dM_isHouse_1 (by decide) ?_
  refine a_aload_n 0 dM_isHouse_2 rfl rfl ?_
  refine a_geti dM_isHouse_3 fl12_259 rfl ly_95 (by omega) ?_
  refine a_iconst (v := 1) dM_isHouse_6 (by decide) ?_
  refine a_isub dM_isHouse_7 ?_
  refine a_callS (Q' := m_res (some (.int (f_in h 0 ((I 95 24) - 1)))) I J R) (as := [.int h, .int 0, .int ((I 95 24) - 1)]) (st := []) dM_isHouse_8 ml12_102 rfl (Nat.le_of_ble_eq_true rfl) (Nat.le_of_ble_eq_true rfl) rfl (Nat.le_refl _) (Nat.le_refl _) c_M_in (m_go ?_)
  show AW _ _ _ _ _ _ _ _ [.int (f_in h 0 ((I 95 24) - 1))] _ _ _ _
  exact a_zret dM_isHouse_11 rfl (m_nz (f_in_01 _ _ _)) ⟨rfl, rfl, rfl, rfl⟩
theorem c_M_isLetter {S : Nat × (Nat → Int32)} {d n : Nat} {I : mI} {J : mJ} {R : mR} {h : Int32} (hn : 122 ≤ n) : RUN S (d + 1) YM_isLetter [.ref 95, .int h] I J R n (some (.int (f_in h 0 (I 95 25 - 1)))) I J R n := by
  show AW S _ YM_isLetter n n _ 0 [(0, .ref 95), (1, .int h)] [] I J R n
  refine a_iload_n 1 dM_isLetter_0 rfl rfl ?_
  refine a_iconst (v := 0) dM_isLetter_1 (by decide) ?_
  refine a_aload_n 0 dM_isLetter_2 rfl rfl ?_
  refine a_geti dM_isLetter_3 fl12_262 rfl ly_95 (by omega) ?_
  refine a_iconst (v := 1) dM_isLetter_6 (by decide) ?_
  refine a_isub dM_isLetter_7 ?_
  refine a_callS (Q' := m_res (some (.int (f_in h 0 ((I 95 25) - 1)))) I J R) (as := [.int h, .int 0, .int ((I 95 25) - 1)]) (st := []) dM_isLetter_8 ml12_102 rfl (Nat.le_of_ble_eq_true rfl) (Nat.le_of_ble_eq_true rfl) rfl (Nat.le_refl _) (Nat.le_refl _) c_M_in (m_go ?_)
  show AW _ _ _ _ _ _ _ _ [.int (f_in h 0 ((I 95 25) - 1))] _ _ _ _
  exact a_zret dM_isLetter_11 rfl (m_nz (f_in_01 _ _ _)) ⟨rfl, rfl, rfl, rfl⟩
/-- an office's row in the reference: what each place says -/
def oR (I : mI) (ko : Nat) (at0 : Nat) : Int32 := I 101 (75 * ko + at0)
def f_base (kd fo : Int32) : Int32 := if kd = 0 then fo else if kd = 1 then -fo else if kd = 2 then fo / 2 else 0
def bsR (I : mI) (ko l : Nat) : Int32 := f_base (oR I ko (19 + l)) (oR I ko (29 + l))
theorem c_M_kind {S : Nat × (Nat → Int32)} {d n : Nat} {I : mI} {J : mJ} {R : mR} {ko l : Nat} (hn : 122 ≤ n) (hR : m_fin R) (ho : I 95 23 = nI ko) (hk : ko < 7) (hl : l < 10) : RUN S (d + 1) YM_kind [.ref 95, .int (nI l)] I J R n (some (.int (oR I ko (19 + l)))) I J R n := by
  show AW S _ YM_kind n n _ 0 [(0, .ref 95), (1, .int (nI l))] [] I J R n
  refine a_aload_n 0 dM_kind_0 rfl rfl ?_
  refine a_bipushN (a := 19) dM_kind_1 (by decide) ?_
  refine a_iload_n 1 dM_kind_3 rfl rfl ?_
  refine a_iaddN (a := 19) (b := l) dM_kind_4 ?_
  refine a_callV (Q' := m_res (some (.int (I 101 (75 * ko + (19 + l))))) I J R) (as := [.int (nI (19 + l))]) (st := []) dM_kind_5 ml12_255 rfl (Nat.le_of_ble_eq_true rfl) ly_95 rfl rfl (by decide) (by omega) (Nat.le_of_ble_eq_true rfl) rfl (Nat.le_refl _) (Nat.le_refl _) (c_M_of (ko := ko) (at0 := (19 + l)) hn hR ho (by omega)) (m_go ?_)
  show AW _ _ _ _ _ _ _ _ [.int (I 101 (75 * ko + (19 + l)))] _ _ _ _
  exact a_iret dM_kind_8 rfl ⟨rfl, rfl, rfl, rfl⟩
theorem c_M_base {S : Nat × (Nat → Int32)} {d n : Nat} {I : mI} {J : mJ} {R : mR} {ko l : Nat} (hn : 122 ≤ n) (hR : m_fin R) (ho : I 95 23 = nI ko) (hk : ko < 7) (hl : l < 10) : RUN S (d + 2) YM_base [.ref 95, .int (nI l)] I J R n (some (.int (bsR I ko l))) I J R n := by
  show AW S _ YM_base n n _ 0 [(0, .ref 95), (1, .int (nI l))] [] I J R n
  refine a_aload_n 0 dM_base_0 rfl rfl ?_
  refine a_bipushN (a := 29) dM_base_1 (by decide) ?_
  refine a_iload_n 1 dM_base_3 rfl rfl ?_
  refine a_iaddN (a := 29) (b := l) dM_base_4 ?_
  refine a_callV (Q' := m_res (some (.int (oR I ko (29 + l)))) I J R) (as := [.int (nI (29 + l))]) (st := []) dM_base_5 ml12_255 rfl (Nat.le_of_ble_eq_true rfl) ly_95 rfl rfl (by decide) (by omega) (Nat.le_of_ble_eq_true rfl) rfl (Nat.le_refl _) (Nat.le_refl _) (c_M_of (ko := ko) (at0 := 29 + l) hn hR ho (by omega)) (m_go ?_)
  show AW _ _ _ _ _ _ _ _ [.int (oR I ko (29 + l))] _ _ _ _
  refine a_istore_n (lv' := [(2, .int (oR I ko (29 + l))), (0, .ref 95), (1, .int (nI l))]) dM_base_8 rfl (by decide) rfl ?_
  refine a_aload_n 1 dM_base_9 rfl rfl ?_
  refine a_iload_n 2 dM_base_10 rfl rfl ?_
  refine a_callV (Q' := m_res (some (.int (oR I ko (19 + l)))) I J R) (as := [.int (nI l)]) (st := []) dM_base_11 ml12_271 rfl (Nat.le_of_ble_eq_true rfl) ly_95 rfl rfl (by decide) (by omega) (Nat.le_of_ble_eq_true rfl) rfl (Nat.le_refl _) (Nat.le_refl _) (c_M_kind (ko := ko) (l := l) hn hR ho (by omega) (by omega)) (m_go ?_)
  show AW _ _ _ _ _ _ _ _ [.int (oR I ko (19 + l))] _ _ _ _
  refine a_istore_n (lv' := [(3, .int (oR I ko (19 + l))), (2, .int (oR I ko (29 + l))), (0, .ref 95), (1, .int (nI l))]) dM_base_14 rfl (by decide) rfl ?_
  refine a_iload_n 0 dM_base_15 rfl rfl ?_
  refine a_if_ne (tgt := 23) dM_base_16 (by decide) (fun c16 => ?_) (fun c16 => ?_)
  · refine a_iload_n 0 dM_base_23 rfl rfl ?_
    refine a_iconstN (a := 1) dM_base_24 (by decide) ?_
    refine a_icmp_ne (tgt := 33) dM_base_25 (by decide) (fun c25 => ?_) (fun c25 => ?_)
    · refine a_iload_n 0 dM_base_33 rfl rfl ?_
      refine a_iconstN (a := 2) dM_base_34 (by decide) ?_
      refine a_icmp_ne (tgt := 44) dM_base_35 (by decide) (fun c35 => ?_) (fun c35 => ?_)
      · refine a_iconstN (a := 0) dM_base_44 (by decide) ?_
        exact a_iret dM_base_45 rfl ⟨by unfold bsR f_base; simp_all [nI_one, nI_two, nI_zero], rfl, rfl, rfl⟩
      · refine a_iload_n 1 dM_base_38 rfl rfl ?_
        refine a_iconstN (a := 2) dM_base_39 (by decide) ?_
        refine a_idiv dM_base_40 (by decide) ?_
        refine a_goto (tgt := 45) dM_base_41 (by decide) ?_
        exact a_iret dM_base_45 rfl ⟨by unfold bsR f_base; simp_all [nI_one, nI_two, nI_zero], rfl, rfl, rfl⟩
    · refine a_iload_n 1 dM_base_28 rfl rfl ?_
      refine a_ineg dM_base_29 ?_
      refine a_goto (tgt := 45) dM_base_30 (by decide) ?_
      exact a_iret dM_base_45 rfl ⟨by unfold bsR f_base; simp_all [nI_one, nI_two, nI_zero], rfl, rfl, rfl⟩
  · refine a_iload_n 1 dM_base_19 rfl rfl ?_
    refine a_goto (tgt := 45) dM_base_20 (by decide) ?_
    exact a_iret dM_base_45 rfl ⟨by unfold bsR f_base; simp_all [nI_one, nI_two, nI_zero], rfl, rfl, rfl⟩
/-- what a letter does behind a kind (or nothing, -1), a law left out -/
def dsy (pl kd tm : Nat → Int32) (law : Int32) (l : Nat) (ahead : Int32) : Int32 :=
  if ahead = -1 then pl l else if 4 * ahead + kd l = law then pl l else if tm (4 * ahead + kd l).toNatClampNeg = -1 then pl l else pl l * tm (4 * ahead + kd l).toNatClampNeg
def dsR (I : mI) (ko l : Nat) (ahead : Int32) : Int32 := dsy (bsR I ko) (fun l => oR I ko (19 + l)) (fun j => oR I ko (59 + j)) (I 95 30) l ahead
theorem dsR_n {I : mI} {ko l kd a : Nat} (hkd : oR I ko (19 + l) = nI kd) (h4 : kd < 4) (ha : a < 4) : dsR I ko l (nI a) = if nI (4 * a + kd) = I 95 30 then bsR I ko l else if oR I ko (59 + (4 * a + kd)) = -1 then bsR I ko l else bsR I ko l * oR I ko (59 + (4 * a + kd)) := by
  unfold dsR dsy
  rw [if_neg (nI_nm1 (by omega))]
  dsimp only
  have e : 4 * nI a + nI kd = nI (4 * a + kd) := by
    show nI 4 * nI a + nI kd = _
    rw [pk_mul, nI_add]
  simp only [hkd, e, nI_clamp (show 4 * a + kd < 2 ^ 31 by omega)]
theorem c_M_doesBy0 {S : Nat × (Nat → Int32)} {d n : Nat} {I : mI} {J : mJ} {R : mR} {ko l kd : Nat} (hn : 122 ≤ n) (hR : m_fin R) (ho : I 95 23 = nI ko) (hk : ko < 7) (hl : l < 10) (hkd : oR I ko (19 + l) = nI kd) (hkd4 : kd < 4) : RUN S (d + 3) YM_doesBy [.ref 95, .int (nI l), .int (-1)] I J R n (some (.int (dsR I ko l (-1)))) I J R n := by
  show AW S _ YM_doesBy n n _ 0 [(0, .ref 95), (1, .int (nI l)), (2, .int (-1))] [] I J R n
  refine a_iconst (v := 4) dM_doesBy_0 (by decide) ?_
  refine a_iload_n 2 dM_doesBy_1 rfl rfl ?_
  refine a_imul dM_doesBy_2 ?_
  refine a_aload_n 0 dM_doesBy_3 rfl rfl ?_
  refine a_iload_n 1 dM_doesBy_4 rfl rfl ?_
  refine a_callV (Q' := m_res (some (.int (oR I ko (19 + l)))) I J R) (as := [.int (nI l)]) (st := [.int (4 * (-1))]) dM_doesBy_5 ml12_271 rfl (Nat.le_of_ble_eq_true rfl) ly_95 rfl rfl (by decide) (by omega) (Nat.le_of_ble_eq_true rfl) rfl (Nat.le_refl _) (Nat.le_refl _) (c_M_kind (ko := ko) (l := l) hn hR ho (by omega) (by omega)) (m_go ?_)
  show AW _ _ _ _ _ _ _ _ [.int (oR I ko (19 + l)), .int (4 * (-1))] _ _ _ _
  refine a_iadd dM_doesBy_8 ?_
  refine a_istore_n (lv' := [(3, .int ((4 * (-1)) + (oR I ko (19 + l)))), (0, .ref 95), (1, .int (nI l)), (2, .int (-1))]) dM_doesBy_9 rfl (by decide) rfl ?_
  refine a_iload_n 3 dM_doesBy_10 rfl rfl ?_
  refine a_iconst (v := -1) dM_doesBy_11 (by decide) ?_
  refine a_icmp_eq (tgt := 23) dM_doesBy_12 (by decide) (fun _ => ?_) (fun c => False.elim (c rfl))
  refine a_iconst (v := -1) dM_doesBy_23 (by decide) ?_
  refine a_goto (tgt := 35) dM_doesBy_24 (by decide) ?_
  refine a_istore (lv' := [(4, .int (-1)), (3, .int ((4 * (-1)) + (oR I ko (19 + l)))), (0, .ref 95), (1, .int (nI l)), (2, .int (-1))]) dM_doesBy_35 (by decide) rfl ?_
  refine a_iload 0 dM_doesBy_37 rfl ?_
  refine a_iconst (v := -1) dM_doesBy_39 (by decide) ?_
  refine a_icmp_ne (tgt := 51) dM_doesBy_40 (by decide) (fun c => False.elim (c rfl)) (fun _ => ?_)
  refine a_aload_n 2 dM_doesBy_43 rfl rfl ?_
  refine a_iload_n 3 dM_doesBy_44 rfl rfl ?_
  refine a_callV (Q' := m_res (some (.int (bsR I ko l))) I J R) (as := [.int (nI l)]) (st := []) dM_doesBy_45 ml12_274 rfl (Nat.le_of_ble_eq_true rfl) ly_95 rfl rfl (by decide) (by omega) (Nat.le_of_ble_eq_true rfl) rfl (Nat.le_refl _) (Nat.le_refl _) (c_M_base (ko := ko) (l := l) hn hR ho (by omega) (by omega)) (m_go ?_)
  show AW _ _ _ _ _ _ _ _ [.int (bsR I ko l)] _ _ _ _
  refine a_goto (tgt := 59) dM_doesBy_48 (by decide) ?_
  exact a_iret dM_doesBy_59 rfl ⟨by simp [dsR, dsy], rfl, rfl, rfl⟩
theorem c_M_doesByN {S : Nat × (Nat → Int32)} {d n : Nat} {I : mI} {J : mJ} {R : mR} {ko l kd a : Nat} (hn : 122 ≤ n) (hR : m_fin R) (ho : I 95 23 = nI ko) (hk : ko < 7) (hl : l < 10) (hkd : oR I ko (19 + l) = nI kd) (hkd4 : kd < 4) (ha : a < 4) : RUN S (d + 3) YM_doesBy [.ref 95, .int (nI l), .int (nI a)] I J R n (some (.int (dsR I ko l (nI a)))) I J R n := by
  show AW S _ YM_doesBy n n _ 0 [(0, .ref 95), (1, .int (nI l)), (2, .int (nI a))] [] I J R n
  refine a_iconstN (a := 4) dM_doesBy_0 (by decide) ?_
  refine a_iload_n 2 dM_doesBy_1 rfl rfl ?_
  refine a_imulN (a := 4) (b := a) dM_doesBy_2 ?_
  refine a_aload_n 0 dM_doesBy_3 rfl rfl ?_
  refine a_iload_n 1 dM_doesBy_4 rfl rfl ?_
  refine a_callV (Q' := m_res (some (.int (nI kd))) I J R) (as := [.int (nI l)]) (st := [.int (nI (4 * a))]) dM_doesBy_5 ml12_271 rfl (Nat.le_of_ble_eq_true rfl) ly_95 rfl rfl (by decide) (by omega) (Nat.le_of_ble_eq_true rfl) rfl (Nat.le_refl _) (Nat.le_refl _) (by have h := c_M_kind (S := S) (d := d + 1) (J := J) (ko := ko) (l := l) hn hR ho (by omega) (by omega); rw [hkd] at h; exact h) (m_go ?_)
  show AW _ _ _ _ _ _ _ _ [.int (nI kd), .int (nI (4 * a))] _ _ _ _
  refine a_iaddN (a := (4 * a)) (b := kd) dM_doesBy_8 ?_
  refine a_istore_n (lv' := [(3, .int (nI ((4 * a) + kd))), (0, .ref 95), (1, .int (nI l)), (2, .int (nI a))]) dM_doesBy_9 rfl (by decide) rfl ?_
  refine a_iload_n 3 dM_doesBy_10 rfl rfl ?_
  refine a_iconst (v := -1) dM_doesBy_11 (by decide) ?_
  refine a_icmp_eq (tgt := 23) dM_doesBy_12 (by decide) (fun c => False.elim (nI_nm1 (by omega) c)) (fun _ => ?_)
  refine a_iload_n 0 dM_doesBy_15 rfl rfl ?_
  refine a_aload_n 1 dM_doesBy_16 rfl rfl ?_
  refine a_geti dM_doesBy_17 fl12_265 rfl ly_95 (by omega) ?_
  refine a_icmp_ne (tgt := 27) dM_doesBy_20 (by decide) (fun c20 => ?_) (fun c20 => ?_)
  · refine a_aload_n 1 dM_doesBy_27 rfl rfl ?_
    refine a_bipushN (a := 59) dM_doesBy_28 (by decide) ?_
    refine a_iload_n 0 dM_doesBy_30 rfl rfl ?_
    refine a_iaddN (a := 59) (b := ((4 * a) + kd)) dM_doesBy_31 ?_
    refine a_callV (Q' := m_res (some (.int (oR I ko (59 + (4 * a + kd))))) I J R) (as := [.int (nI (59 + ((4 * a) + kd)))]) (st := []) dM_doesBy_32 ml12_255 rfl (Nat.le_of_ble_eq_true rfl) ly_95 rfl rfl (by decide) (by omega) (Nat.le_of_ble_eq_true rfl) rfl (Nat.le_refl _) (Nat.le_refl _) (c_M_of (ko := ko) (at0 := 59 + (4 * a + kd)) hn hR ho (by omega)) (m_go ?_)
    show AW _ _ _ _ _ _ _ _ [.int (oR I ko (59 + (4 * a + kd)))] _ _ _ _
    refine a_istore (lv' := [(4, .int (oR I ko (59 + (4 * a + kd)))), (3, .int (nI ((4 * a) + kd))), (0, .ref 95), (1, .int (nI l)), (2, .int (nI a))]) dM_doesBy_35 (by decide) rfl ?_
    refine a_iload 0 dM_doesBy_37 rfl ?_
    refine a_iconst (v := -1) dM_doesBy_39 (by decide) ?_
    refine a_icmp_ne (tgt := 51) dM_doesBy_40 (by decide) (fun c40 => ?_) (fun c40 => ?_)
    · refine a_aload_n 2 dM_doesBy_51 rfl rfl ?_
      refine a_iload_n 3 dM_doesBy_52 rfl rfl ?_
      refine a_callV (Q' := m_res (some (.int (bsR I ko l))) I J R) (as := [.int (nI l)]) (st := []) dM_doesBy_53 ml12_274 rfl (Nat.le_of_ble_eq_true rfl) ly_95 rfl rfl (by decide) (by omega) (Nat.le_of_ble_eq_true rfl) rfl (Nat.le_refl _) (Nat.le_refl _) (c_M_base (ko := ko) (l := l) hn hR ho (by omega) (by omega)) (m_go ?_)
      show AW _ _ _ _ _ _ _ _ [.int (bsR I ko l)] _ _ _ _
      refine a_iload 0 dM_doesBy_56 rfl ?_
      refine a_imul dM_doesBy_58 ?_
      exact a_iret dM_doesBy_59 rfl ⟨by rw [dsR_n hkd (by omega) (by omega)]; simp [*], rfl, rfl, rfl⟩
    · refine a_aload_n 2 dM_doesBy_43 rfl rfl ?_
      refine a_iload_n 3 dM_doesBy_44 rfl rfl ?_
      refine a_callV (Q' := m_res (some (.int (bsR I ko l))) I J R) (as := [.int (nI l)]) (st := []) dM_doesBy_45 ml12_274 rfl (Nat.le_of_ble_eq_true rfl) ly_95 rfl rfl (by decide) (by omega) (Nat.le_of_ble_eq_true rfl) rfl (Nat.le_refl _) (Nat.le_refl _) (c_M_base (ko := ko) (l := l) hn hR ho (by omega) (by omega)) (m_go ?_)
      show AW _ _ _ _ _ _ _ _ [.int (bsR I ko l)] _ _ _ _
      refine a_goto (tgt := 59) dM_doesBy_48 (by decide) ?_
      exact a_iret dM_doesBy_59 rfl ⟨by rw [dsR_n hkd (by omega) (by omega)]; simp [*], rfl, rfl, rfl⟩
  · refine a_iconst (v := -1) dM_doesBy_23 (by decide) ?_
    refine a_goto (tgt := 35) dM_doesBy_24 (by decide) ?_
    refine a_istore (lv' := [(4, .int (-1)), (3, .int (nI ((4 * a) + kd))), (0, .ref 95), (1, .int (nI l)), (2, .int (nI a))]) dM_doesBy_35 (by decide) rfl ?_
    refine a_iload 0 dM_doesBy_37 rfl ?_
    refine a_iconst (v := -1) dM_doesBy_39 (by decide) ?_
    refine a_icmp_ne (tgt := 51) dM_doesBy_40 (by decide) (fun c => False.elim (c rfl)) (fun _ => ?_)
    refine a_aload_n 2 dM_doesBy_43 rfl rfl ?_
    refine a_iload_n 3 dM_doesBy_44 rfl rfl ?_
    refine a_callV (Q' := m_res (some (.int (bsR I ko l))) I J R) (as := [.int (nI l)]) (st := []) dM_doesBy_45 ml12_274 rfl (Nat.le_of_ble_eq_true rfl) ly_95 rfl rfl (by decide) (by omega) (Nat.le_of_ble_eq_true rfl) rfl (Nat.le_refl _) (Nat.le_refl _) (c_M_base (ko := ko) (l := l) hn hR ho (by omega) (by omega)) (m_go ?_)
    show AW _ _ _ _ _ _ _ _ [.int (bsR I ko l)] _ _ _ _
    refine a_goto (tgt := 59) dM_doesBy_48 (by decide) ?_
    exact a_iret dM_doesBy_59 rfl ⟨by rw [dsR_n hkd (by omega) (by omega)]; simp [*], rfl, rfl, rfl⟩
