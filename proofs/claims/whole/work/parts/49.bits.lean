/-! ===== Int32 by its bits: bt x i ===== -/
def bt (x : Int32) (i : Nat) : Bool := x.toBitVec.getLsbD i
theorem b_ext {x y : Int32} (h : ∀ i, i < 32 → bt x i = bt y i) : x = y := Int32.toBitVec_inj.mp (BitVec.eq_of_getLsbD_eq (fun i hi => h i hi))
theorem b_or (x y : Int32) (i : Nat) : bt (x ||| y) i = (bt x i || bt y i) := by unfold bt; rw [Int32.toBitVec_or, BitVec.getLsbD_or]
theorem b_and (x y : Int32) (i : Nat) : bt (x &&& y) i = (bt x i && bt y i) := by unfold bt; rw [Int32.toBitVec_and, BitVec.getLsbD_and]
theorem b_xor (x y : Int32) (i : Nat) : bt (x ^^^ y) i = (bt x i ^^ bt y i) := by unfold bt; rw [Int32.toBitVec_xor, BitVec.getLsbD_xor]
theorem b_big {x : Int32} {i : Nat} (h : 32 ≤ i) : bt x i = false := BitVec.getLsbD_of_ge _ _ h
theorem b_255 (i : Nat) : bt 255 i = decide (i < 8) := by
  rcases Nat.lt_or_ge i 32 with h | h
  · exact (by decide +kernel : ∀ i, i < 32 → bt 255 i = decide (i < 8)) i h
  · rw [b_big h, decide_eq_false (by omega)]
theorem b_65535 (i : Nat) : bt 65535 i = decide (i < 16) := by
  rcases Nat.lt_or_ge i 32 with h | h
  · exact (by decide +kernel : ∀ i, i < 32 → bt 65535 i = decide (i < 16)) i h
  · rw [b_big h, decide_eq_false (by omega)]
theorem b_m1 : ∀ i, i < 32 → bt (-1) i = true := by decide +kernel
theorem b_0 (i : Nat) : bt 0 i = false := BitVec.getLsbD_zero
theorem s_l : ∀ n, n < 32 → ((nI n &&& 31).toBitVec.smod 32).toNat = n := by decide +kernel
theorem s_u : ∀ n, n < 32 → (((nI n).toUInt32 &&& Int32.toUInt32 31).toBitVec % 32).toNat = n := by decide +kernel
theorem b_shl (n : Nat) (hn : n < 32) (x : Int32) {i : Nat} (hi : i < 32) : bt (x <<< (nI n &&& 31)) i = (decide (n ≤ i) && bt x (i - n)) := by
  unfold bt
  rw [Int32.toBitVec_shiftLeft]
  show (x.toBitVec <<< ((nI n &&& 31).toBitVec.smod 32).toNat).getLsbD i = _
  rw [s_l n hn, BitVec.getLsbD_shiftLeft]
  rcases Nat.lt_or_ge i n with h | h
  · simp [h, Nat.not_le.mpr h]
  · simp [hi, h, Nat.not_lt.mpr h]
theorem b_ushr (n : Nat) (hn : n < 32) (x : Int32) (i : Nat) : bt ((x.toUInt32 >>> ((nI n).toUInt32 &&& Int32.toUInt32 31)).toInt32) i = bt x (n + i) := by
  show (x.toUInt32 >>> ((nI n).toUInt32 &&& Int32.toUInt32 31)).toBitVec.getLsbD i = x.toUInt32.toBitVec.getLsbD (n + i)
  rw [UInt32.toBitVec_shiftRight]
  show (x.toUInt32.toBitVec >>> (((nI n).toUInt32 &&& Int32.toUInt32 31).toBitVec % 32).toNat).getLsbD i = _
  rw [s_u n hn, BitVec.getLsbD_ushiftRight]
theorem b_sshr (n : Nat) (hn : n < 32) (x : Int32) {i : Nat} (hi : i < 32) : bt (x >>> (nI n &&& 31)) i = if n + i < 32 then bt x (n + i) else bt x 31 := by
  unfold bt
  rw [Int32.toBitVec_shiftRight]
  show (x.toBitVec.sshiftRight ((nI n &&& 31).toBitVec.smod 32).toNat).getLsbD i = _
  rw [s_l n hn, BitVec.getLsbD_sshiftRight, BitVec.msb_eq_getLsbD_last]
  simp [hi]
theorem b_shl8 (x : Int32) {i : Nat} (hi : i < 32) : bt (x <<< ((8 : Int32) &&& 31)) i = (decide (8 ≤ i) && bt x (i - 8)) := b_shl 8 (by omega) x hi
theorem b_shl16 (x : Int32) {i : Nat} (hi : i < 32) : bt (x <<< ((16 : Int32) &&& 31)) i = (decide (16 ≤ i) && bt x (i - 16)) := b_shl 16 (by omega) x hi
theorem b_shl24 (x : Int32) {i : Nat} (hi : i < 32) : bt (x <<< ((24 : Int32) &&& 31)) i = (decide (24 ≤ i) && bt x (i - 24)) := b_shl 24 (by omega) x hi
theorem b_sshr8 (x : Int32) {i : Nat} (hi : i < 32) : bt (x >>> ((8 : Int32) &&& 31)) i = if 8 + i < 32 then bt x (8 + i) else bt x 31 := b_sshr 8 (by omega) x hi
theorem bt_nI {k i : Nat} (hi : i < 32) : bt (nI k) i = k.testBit i := by
  unfold bt
  show (BitVec.ofNat 32 k).getLsbD i = _
  rw [BitVec.getLsbD_ofNat]
  simp [hi]
theorem bt_1 : ∀ i, i < 32 → bt 1 i = decide (i = 0) := by decide +kernel
theorem and_1 (x : Int32) : x &&& 1 = if bt x 0 = true then 1 else 0 := by
  apply b_ext
  intro i hi
  rw [b_and, bt_1 i hi]
  by_cases h0 : i = 0
  · subst h0
    cases h : bt x 0 with
    | true => rw [if_pos rfl, bt_1 0 (by decide)]; rfl
    | false => rw [if_neg (by decide), b_0]; rfl
  · rw [decide_eq_false h0, Bool.and_false]
    cases h : bt x 0 with
    | true => rw [if_pos rfl, bt_1 i hi, decide_eq_false h0]
    | false => rw [if_neg (by decide), b_0]
theorem shr_1 (s : Int32) {j : Nat} (hj : j < 32) : ((s >>> (nI j &&& 31)) &&& 1) = if bt s j = true then 1 else 0 := by
  rw [and_1, b_sshr j hj s (by decide), if_pos (show j + 0 < 32 from hj)]
  rfl
theorem has_bt (s : Int32) {j : Nat} (hj : j < 32) : f_has s (nI j) = if bt s j = true then 1 else 0 := by
  unfold f_has
  rw [shr_1 s hj]
  cases bt s j <;> rfl
theorem hasz_bt (s : Int32) {j : Nat} (hj : j < 32) : f_has s (nI j) = 0 ↔ bt s j = false := by
  rw [has_bt s hj]
  cases bt s j <;> decide
theorem bt_sh {l i : Nat} (hl : l < 32) (hi : i < 32) : bt (1 <<< (nI l &&& 31)) i = decide (i = l) := by
  rw [b_shl l hl 1 hi]
  by_cases h : l ≤ i
  · rw [bt_1 _ (by omega)]
    by_cases h2 : i = l
    · subst h2; simp
    · have : ¬ i - l = 0 := by omega
      simp [h2, this]
  · have : ¬ i = l := by omega
    simp [h, this]
theorem bt_not (x : Int32) {i : Nat} (hi : i < 32) : bt (x ^^^ -1) i = !bt x i := by
  rw [b_xor, b_m1 i hi]
  cases bt x i <;> rfl
theorem sub_bt (s t : Int32) : (s &&& (t ^^^ -1)) = 0 ↔ ∀ i, i < 32 → bt s i = true → bt t i = true := by
  constructor
  · intro h i hi hs
    have e : bt (s &&& (t ^^^ -1)) i = false := by rw [h, b_0]
    rw [b_and, bt_not t hi, hs] at e
    cases ht : bt t i with
    | true => rfl
    | false => rw [ht] at e; exact absurd e (by decide)
  · intro h
    apply b_ext
    intro i hi
    rw [b_and, bt_not t hi, b_0]
    cases hs : bt s i with
    | false => rfl
    | true => rw [h i hi hs]; rfl
/-- an int as a natural number -/
def uN32 (x : Int32) : Nat := x.toBitVec.toNat
theorem uN32_nI (x : Int32) : x = nI (uN32 x) := by
  apply Int32.toBitVec_inj.mp
  show x.toBitVec = BitVec.ofNat 32 x.toBitVec.toNat
  rw [BitVec.ofNat_toNat, BitVec.setWidth_eq]
theorem uN32_bt (x : Int32) (i : Nat) : (uN32 x).testBit i = bt x i := rfl
theorem uN32_lt {x : Int32} {m : Nat} (h : ∀ i, m ≤ i → bt x i = false) : uN32 x < 2 ^ m := Nat.lt_pow_two_of_testBit _ (fun i hi => h i hi)
theorem set_nI {x : Int32} {m : Nat} (h : ∀ i, m ≤ i → bt x i = false) : ∃ k, k < 2 ^ m ∧ x = nI k := ⟨uN32 x, uN32_lt h, uN32_nI x⟩
theorem nI_big {k m i : Nat} (hk : k < 2 ^ m) (hi : m ≤ i) : bt (nI k) i = false := by
  by_cases h : i < 32
  · rw [bt_nI h]
    exact Nat.testBit_lt_two_pow (Nat.lt_of_lt_of_le hk (Nat.pow_le_pow_right (by decide) hi))
  · exact b_big (by omega)
theorem onesN_s (s : Int32) {k : Nat} (hk : k < 32) : onesN s (k + 1) = onesN s k + (if bt s k = true then 1 else 0) := by
  show onesN s k + (if f_has s (nI k) = 0 then 0 else 1) = _
  rw [has_bt s hk]
  cases bt s k <;> rfl
theorem ones_mono {s t : Int32} : ∀ k, k ≤ 32 → (∀ i, i < k → bt s i = true → bt t i = true) → onesN s k ≤ onesN t k := by
  intro k
  induction k with
  | zero => intro _ _; exact Nat.le_refl _
  | succ k ih =>
    intro hk h
    have := ih (by omega) (fun i hi => h i (by omega))
    rw [onesN_s s (by omega), onesN_s t (by omega)]
    cases hs : bt s k with
    | false => simp; split <;> omega
    | true => rw [h k (by omega) hs]; omega
theorem ones_sub {s t : Int32} (h : (s &&& (t ^^^ -1)) = 0) : onesN s 10 ≤ onesN t 10 := ones_mono 10 (by decide) (fun i hi => (sub_bt s t).mp h i (by omega))
