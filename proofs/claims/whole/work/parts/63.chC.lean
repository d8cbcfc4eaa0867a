def bc1 (x : Int32) : Int32 := x - ((x.toUInt32 >>> (Int32.toUInt32 1 &&& Int32.toUInt32 31)).toInt32 &&& 1431655765)
def bc2 (x : Int32) : Int32 := (x &&& 858993459) + ((x.toUInt32 >>> (Int32.toUInt32 2 &&& Int32.toUInt32 31)).toInt32 &&& 858993459)
def bc3 (x : Int32) : Int32 := (x + (x.toUInt32 >>> (Int32.toUInt32 4 &&& Int32.toUInt32 31)).toInt32) &&& 252645135
def bc4 (x : Int32) : Int32 := x + (x.toUInt32 >>> (Int32.toUInt32 8 &&& Int32.toUInt32 31)).toInt32
def bc5 (x : Int32) : Int32 := x + (x.toUInt32 >>> (Int32.toUInt32 16 &&& Int32.toUInt32 31)).toInt32
/-- how many bits are set, as the JDK counts them -/
def bcF (x : Int32) : Int32 := bc5 (bc4 (bc3 (bc2 (bc1 x)))) &&& 63
theorem bc_N : ∀ k, k < 1024 → bcF (nI k) = nI (onesN (nI k) 10) := by decide +kernel
theorem c_Integer_bitCount {S : Nat × (Nat → Int32)} {d n : Nat} {I : mI} {J : mJ} {R : mR} {x : Int32}  : RUN S d YInteger_bitCount [.int x] I J R n (some (.int (bcF x))) I J R n := by
  show AW S _ YInteger_bitCount n n _ 0 [(0, .int x)] [] I J R n
  refine a_iload_n 0 dInteger_bitCount_0 rfl rfl ?_
  refine a_iload_n 0 dInteger_bitCount_1 rfl rfl ?_
  refine a_iconst (v := 1) dInteger_bitCount_2 (by decide) ?_
  refine a_iushr dInteger_bitCount_3 ?_
  refine a_ldcw (v := 1431655765) dInteger_bitCount_4 cnInteger_265 ?_
  refine a_iand dInteger_bitCount_7 ?_
  refine a_isub dInteger_bitCount_8 ?_
  rw [show (x - ((x.toUInt32 >>> (Int32.toUInt32 1 &&& Int32.toUInt32 31)).toInt32 &&& 1431655765)) = (bc1 x) from rfl]
  refine a_istore_n (lv' := [(0, .int (bc1 x))]) dInteger_bitCount_9 rfl (by decide) rfl ?_
  refine a_iload_n 0 dInteger_bitCount_10 rfl rfl ?_
  refine a_ldcw (v := 858993459) dInteger_bitCount_11 cnInteger_266 ?_
  refine a_iand dInteger_bitCount_14 ?_
  refine a_iload_n 0 dInteger_bitCount_15 rfl rfl ?_
  refine a_iconst (v := 2) dInteger_bitCount_16 (by decide) ?_
  refine a_iushr dInteger_bitCount_17 ?_
  refine a_ldcw (v := 858993459) dInteger_bitCount_18 cnInteger_266 ?_
  refine a_iand dInteger_bitCount_21 ?_
  refine a_iadd dInteger_bitCount_22 ?_
  rw [show (((bc1 x) &&& 858993459) + (((bc1 x).toUInt32 >>> (Int32.toUInt32 2 &&& Int32.toUInt32 31)).toInt32 &&& 858993459)) = (bc2 (bc1 x)) from rfl]
  refine a_istore_n (lv' := [(0, .int (bc2 (bc1 x)))]) dInteger_bitCount_23 rfl (by decide) rfl ?_
  refine a_iload_n 0 dInteger_bitCount_24 rfl rfl ?_
  refine a_iload_n 0 dInteger_bitCount_25 rfl rfl ?_
  refine a_iconst (v := 4) dInteger_bitCount_26 (by decide) ?_
  refine a_iushr dInteger_bitCount_27 ?_
  refine a_iadd dInteger_bitCount_28 ?_
  refine a_ldcw (v := 252645135) dInteger_bitCount_29 cnInteger_267 ?_
  refine a_iand dInteger_bitCount_32 ?_
  rw [show (((bc2 (bc1 x)) + ((bc2 (bc1 x)).toUInt32 >>> (Int32.toUInt32 4 &&& Int32.toUInt32 31)).toInt32) &&& 252645135) = (bc3 (bc2 (bc1 x))) from rfl]
  refine a_istore_n (lv' := [(0, .int (bc3 (bc2 (bc1 x))))]) dInteger_bitCount_33 rfl (by decide) rfl ?_
  refine a_iload_n 0 dInteger_bitCount_34 rfl rfl ?_
  refine a_iload_n 0 dInteger_bitCount_35 rfl rfl ?_
  refine a_bipush (v := 8) dInteger_bitCount_36 (by decide) ?_
  refine a_iushr dInteger_bitCount_38 ?_
  refine a_iadd dInteger_bitCount_39 ?_
  rw [show ((bc3 (bc2 (bc1 x))) + ((bc3 (bc2 (bc1 x))).toUInt32 >>> (Int32.toUInt32 8 &&& Int32.toUInt32 31)).toInt32) = (bc4 (bc3 (bc2 (bc1 x)))) from rfl]
  refine a_istore_n (lv' := [(0, .int (bc4 (bc3 (bc2 (bc1 x)))))]) dInteger_bitCount_40 rfl (by decide) rfl ?_
  refine a_iload_n 0 dInteger_bitCount_41 rfl rfl ?_
  refine a_iload_n 0 dInteger_bitCount_42 rfl rfl ?_
  refine a_bipush (v := 16) dInteger_bitCount_43 (by decide) ?_
  refine a_iushr dInteger_bitCount_45 ?_
  refine a_iadd dInteger_bitCount_46 ?_
  rw [show ((bc4 (bc3 (bc2 (bc1 x)))) + ((bc4 (bc3 (bc2 (bc1 x)))).toUInt32 >>> (Int32.toUInt32 16 &&& Int32.toUInt32 31)).toInt32) = (bc5 (bc4 (bc3 (bc2 (bc1 x))))) from rfl]
  refine a_istore_n (lv' := [(0, .int (bc5 (bc4 (bc3 (bc2 (bc1 x))))))]) dInteger_bitCount_47 rfl (by decide) rfl ?_
  refine a_iload_n 0 dInteger_bitCount_48 rfl rfl ?_
  refine a_bipush (v := 63) dInteger_bitCount_49 (by decide) ?_
  refine a_iand dInteger_bitCount_51 ?_
  exact a_iret dInteger_bitCount_52 rfl ⟨rfl, rfl, rfl, rfl⟩
theorem c_bitCountN {S : Nat × (Nat → Int32)} {d n : Nat} {I : mI} {J : mJ} {R : mR} {k : Nat} (hk : k < 1024) : RUN S d YInteger_bitCount [.int (nI k)] I J R n (some (.int (nI (onesN (nI k) 10)))) I J R n := by
  have h := c_Integer_bitCount (S := S) (d := d) (n := n) (I := I) (J := J) (R := R) (x := nI k)
  rw [bc_N k hk] at h
  exact h
theorem max_nI {a b : Nat} (ha : a < 2 ^ 31) (hb : b < 2 ^ 31) : (if nI a < nI b then nI b else nI a) = nI (max a b) := by
  by_cases h : a < b
  · rw [if_pos ((nI_ltI ha hb).mpr h)]; congr 1; omega
  · rw [if_neg (fun q => h ((nI_ltI ha hb).mp q))]; congr 1; omega
/-- the fraction at hand -/
def chJ (J : mJ) (a b : Int64) : mJ := m_row J 92 (fun k => if k = 0 then a else if k = 1 then b else J 92 k)
theorem chJ_a {J : mJ} {a b x : Int64} : m_up (chJ J a b) 92 0 x = chJ J x b := by
  unfold chJ
  rw [m_up_r]
  congr 1
  funext k
  unfold va_up
  by_cases h : k = 0
  · simp [h]
  · simp [h]
theorem chJ_b {J : mJ} {a b x : Int64} : m_up (chJ J a b) 92 1 x = chJ J a x := by
  unfold chJ
  rw [m_up_r]
  congr 1
  funext k
  unfold va_up
  by_cases h : k = 1
  · subst h; rfl
  · rw [if_neg h]
    by_cases h0 : k = 0
    · simp [h0]
    · simp [h0, h]
theorem chJ_self {J : mJ} : chJ J (J 92 0) (J 92 1) = J := by
  unfold chJ
  rw [show (fun k => if k = 0 then J 92 0 else if k = 1 then J 92 1 else J 92 k) = J 92 from ?_]
  · exact m_row_self
  · funext k
    by_cases h : k = 0
    · rw [if_pos h, h]
    · rw [if_neg h]
      by_cases h1 : k = 1
      · rw [if_pos h1, h1]
      · rw [if_neg h1]
theorem chJ_a0 {J : mJ} {x : Int64} : m_up J 92 0 x = chJ J x (J 92 1) := by
  have h := chJ_a (J := J) (a := J 92 0) (b := J 92 1) (x := x)
  rw [chJ_self] at h; exact h
theorem chJ_b0 {J : mJ} {x : Int64} : m_up J 92 1 x = chJ J (J 92 0) x := by
  have h := chJ_b (J := J) (a := J 92 0) (b := J 92 1) (x := x)
  rw [chJ_self] at h; exact h
theorem off_row {I : mI} {f : Nat → Int32} {o c k : Nat} (ho : o ∈ m_offs) (hc : c ∈ m_scr) (hk : k < 9) : m_row I c f (o + k) = I (o + k) := m_row_ne (oc_ne ho hk hc)
theorem off_row0 {I : mI} {f : Nat → Int32} {o c : Nat} (ho : o ∈ m_offs) (hc : c ∈ m_scr) : m_row I c f o = I o := m_row_ne (oc_ne0 ho hc)
theorem dsO_row {I : mI} {f : Nat → Int32} {o c : Nat} (ho : o ∈ m_offs) (hc : c ∈ m_scr) : dsO (m_row I c f) o = dsO I o := by
  funext l y; unfold dsO; rw [off_row ho hc (by decide), off_row ho hc (by decide), off_row ho hc (by decide)]
theorem WFc_row {I : mI} {f : Nat → Int32} {o c nl : Nat} (ho : o ∈ m_offs) (hc : c ∈ m_scr) (h : WFc I o nl) : WFc (m_row I c f) o nl := fun l hl => by
  rw [off_row ho hc (by decide)]; exact h l hl
def pwCS (b : Int32) (k : Nat) (s : Int64) : Int64 := (s * (Int32.toInt64 b))
def pwC (b : Int32) (s0 : Int64) : Nat → Int64
  | 0 => s0
  | k + 1 => pwCS b k (pwC b s0 k)
theorem l_pwC {S : Nat × (Nat → Int32)} {d n : Nat} {I : mI} {J : mJ} {R : mR} {b : Int32} {N : Nat} (hN : N < 2 ^ 31)  {s0 : Int64} {Q : Option Value → mI → mJ → mR → Prop}  (hx : AW S d YChances_power n n Q 22 [(4, .int (nI N)), (2, .long (pwC b s0 N)), (0, .int b), (1, .int (nI N))] [] I J R n) : ∀ m k, k + m = N → ∀ s : Int64, pwC b s0 k = s → AW S d YChances_power n n Q 5 [(4, .int (nI k)), (2, .long s), (0, .int b), (1, .int (nI N))] [] I J R n := by
  intro m
  induction m with
  | zero =>
    intro k hk9 s es
    rw [show k = N by omega] at es ⊢
    subst es
    refine a_iload 0 dChances_power_5 rfl ?_
    refine a_iload_n 3 dChances_power_7 rfl rfl ?_
    refine a_icmp_geN (tgt := 22) dChances_power_8 (by decide) (by omega) (by omega) (fun _ => ?_) (fun c => False.elim (by omega))
    exact hx
  | succ m ih =>
    intro k hk9 s es
    refine a_iload 0 dChances_power_5 rfl ?_
    refine a_iload_n 3 dChances_power_7 rfl rfl ?_
    refine a_icmp_geN (tgt := 22) dChances_power_8 (by decide) (by omega) (by omega) (fun c => False.elim (by omega)) (fun _ => ?_)
    refine a_lload_n 1 dChances_power_11 rfl rfl ?_
    refine a_iload_n 2 dChances_power_12 rfl rfl ?_
    refine a_i2l dChances_power_13 ?_
    refine a_lmul dChances_power_14 ?_
    refine a_lstore_n (lv' := [(2, .long (s * (Int32.toInt64 b))), (4, .int (nI k)), (0, .int b), (1, .int (nI N))]) dChances_power_15 rfl (by decide) rfl ?_
    refine a_iincN (lv' := [(4, .int (nI (k + 1))), (2, .long (s * (Int32.toInt64 b))), (0, .int b), (1, .int (nI N))]) (j := 1) dChances_power_16 rfl (by decide) rfl ?_
    refine a_goto (tgt := 5) dChances_power_19 (by decide) ?_
    have ez9 : pwC b s0 (k + 1) = (s * (Int32.toInt64 b)) := by
      show pwCS b k (pwC b s0 k) = _
      rw [es]
      unfold pwCS
      rfl
    exact ih (k + 1) (by omega) (s * (Int32.toInt64 b)) ez9
theorem c_Chances_power {S : Nat × (Nat → Int32)} {d n : Nat} {I : mI} {J : mJ} {R : mR} {b : Int32} {N : Nat} (hN : N < 2 ^ 31)  : RUN S d YChances_power [.int b, .int (nI N)] I J R n (some (.long (pwC b 1 N))) I J R n := by
  show AW S _ YChances_power n n _ 0 [(0, .int b), (1, .int (nI N))] [] I J R n
  refine a_lconst (v := 1) dChances_power_0 (by decide) ?_
  refine a_lstore_n (lv' := [(2, .long 1), (0, .int b), (1, .int (nI N))]) dChances_power_1 rfl (by decide) rfl ?_
  refine a_iconstN (a := 0) dChances_power_2 (by decide) ?_
  refine a_istore (lv' := [(4, .int (nI 0)), (2, .long 1), (0, .int b), (1, .int (nI N))]) dChances_power_3 (by decide) rfl ?_
  refine l_pwC (s0 := 1) hN ?_ N 0 (by omega) _ rfl
  refine a_lload_n 1 dChances_power_22 rfl rfl ?_
  exact a_lret dChances_power_23 rfl ⟨rfl, rfl, rfl, rfl⟩
theorem pwC_N {b : Nat} (hb : b < 2 ^ 31) : ∀ k, pwC (nI b) 1 k = lN (b ^ k) := by
  intro k
  induction k with
  | zero => rfl
  | succ k ih =>
    show pwC (nI b) 1 k * (nI b).toInt64 = _
    rw [ih, nI_l hb, lN_mul, Nat.pow_succ]
theorem c_powerN {S : Nat × (Nat → Int32)} {d n : Nat} {I : mI} {J : mJ} {R : mR} {b N : Nat} (hb : b < 2 ^ 31) (hN : N < 2 ^ 31) : RUN S d YChances_power [.int (nI b), .int (nI N)] I J R n (some (.long (lN (b ^ N)))) I J R n := by
  have h := c_Chances_power (S := S) (d := d) (n := n) (I := I) (J := J) (R := R) (b := nI b) hN
  rw [pwC_N hb] at h
  exact h
def mcAS (I : mI) (o : Nat) (b0 : Int32) (l : Nat) (k : Nat) (s : Int64) : Int64 := (if f_has b0 (nI l) = 0 then s else (if f_has b0 (nI k) = 0 then s else (if l = k then (s + (Int32.toInt64 (dsO I o l (-1)))) else (s + (Int32.toInt64 (dsO I o l (I (o + 3) k)))))))
def mcA (I : mI) (o : Nat) (b0 : Int32) (l : Nat) (s0 : Int64) : Nat → Int64
  | 0 => s0
  | k + 1 => mcAS I o b0 l k (mcA I o b0 l s0 k)
theorem l_mcA {S : Nat × (Nat → Int32)} {d n : Nat} {I : mI} {J : mJ} {R : mR} (hn : 122 ≤ n) (hR : m_fin R) {o nh nl : Nat} (ho : o ∈ m_offs) (hr : offR R o) (hon : o + 8 < n) (hh : I o 0 = nI nh) (hnh : nh ≤ 6) (hl : I o 1 = nI nl) (hnl : nl ≤ 10) (hW : WFc I o nl) (hH : WFh (I (o + 2)) nl) {b0 : Int32} {h l : Nat} {b1 : Int64} (hln : l < nl)  {s0 : Int64} {Q : Option Value → mI → mJ → mR → Prop}  (hx : AW S (d + 1) YChances_findMean n n Q 119 [(5, .int (nI nl)), (0, .ref 92), (1, .ref o), (2, .int (nI h)), (3, .int b0), (4, .int (nI l))] [] I (chJ J (mcA I o b0 l s0 nl) b1) R n) : ∀ m k, k + m = nl → ∀ s : Int64, mcA I o b0 l s0 k = s → AW S (d + 1) YChances_findMean n n Q 50 [(5, .int (nI k)), (0, .ref 92), (1, .ref o), (2, .int (nI h)), (3, .int b0), (4, .int (nI l))] [] I (chJ J s b1) R n := by
  intro m
  induction m with
  | zero =>
    intro k hk9 s es
    rw [show k = nl by omega] at es ⊢
    subst es
    refine a_iload 0 dChances_findMean_50 rfl ?_
    refine a_aload_n 2 dChances_findMean_52 rfl rfl ?_
    refine a_geti dChances_findMean_53 fl1_53 rfl (of_l0 ho) (by omega) ?_
    rw [show I o 1 = (nI nl) from hl]
    refine a_icmp_geN (tgt := 119) dChances_findMean_56 (by decide) (by omega) (by omega) (fun _ => ?_) (fun c => False.elim (by omega))
    exact hx
  | succ m ih =>
    intro k hk9 s es
    refine a_iload 0 dChances_findMean_50 rfl ?_
    refine a_aload_n 2 dChances_findMean_52 rfl rfl ?_
    refine a_geti dChances_findMean_53 fl1_53 rfl (of_l0 ho) (by omega) ?_
    rw [show I o 1 = (nI nl) from hl]
    refine a_icmp_geN (tgt := 119) dChances_findMean_56 (by decide) (by omega) (by omega) (fun c => False.elim (by omega)) (fun _ => ?_)
    by_cases hs : f_has b0 (nI l) = 0
    · refine a_iload_n 4 dChances_findMean_59 rfl rfl ?_
      refine a_iload 5 dChances_findMean_60 rfl ?_
      refine a_ishr dChances_findMean_62 ?_
      refine a_iconstN (a := 1) dChances_findMean_63 (by decide) ?_
      refine a_iand dChances_findMean_64 ?_
      refine a_iconstN (a := 1) dChances_findMean_65 (by decide) ?_
      refine a_icmp_ne (tgt := 113) dChances_findMean_66 (by decide) (fun _ => ?_) (fun c => False.elim (has_1 c hs))
      refine a_iincN (lv' := [(5, .int (nI (k + 1))), (0, .ref 92), (1, .ref o), (2, .int (nI h)), (3, .int b0), (4, .int (nI l))]) (j := 0) dChances_findMean_113 rfl (by decide) rfl ?_
      refine a_goto (tgt := 50) dChances_findMean_116 (by decide) ?_
      have ez9 : mcA I o b0 l s0 (k + 1) = s := by
        show mcAS I o b0 l k (mcA I o b0 l s0 k) = _
        rw [es]
        unfold mcAS
        rw [if_pos hs]
      exact ih (k + 1) (by omega) s ez9
    · refine a_iload_n 4 dChances_findMean_59 rfl rfl ?_
      refine a_iload 5 dChances_findMean_60 rfl ?_
      refine a_ishr dChances_findMean_62 ?_
      refine a_iconstN (a := 1) dChances_findMean_63 (by decide) ?_
      refine a_iand dChances_findMean_64 ?_
      refine a_iconstN (a := 1) dChances_findMean_65 (by decide) ?_
      refine a_icmp_ne (tgt := 113) dChances_findMean_66 (by decide) (fun c => False.elim (hs (has_0 c))) (fun _ => ?_)
      by_cases ht : f_has b0 (nI k) = 0
      · refine a_iload_n 4 dChances_findMean_69 rfl rfl ?_
        refine a_iload 0 dChances_findMean_70 rfl ?_
        refine a_ishr dChances_findMean_72 ?_
        refine a_iconstN (a := 1) dChances_findMean_73 (by decide) ?_
        refine a_iand dChances_findMean_74 ?_
        refine a_iconstN (a := 1) dChances_findMean_75 (by decide) ?_
        refine a_icmp_ne (tgt := 113) dChances_findMean_76 (by decide) (fun _ => ?_) (fun c => False.elim (has_1 c ht))
        refine a_iincN (lv' := [(5, .int (nI (k + 1))), (0, .ref 92), (1, .ref o), (2, .int (nI h)), (3, .int b0), (4, .int (nI l))]) (j := 0) dChances_findMean_113 rfl (by decide) rfl ?_
        refine a_goto (tgt := 50) dChances_findMean_116 (by decide) ?_
        have ez9 : mcA I o b0 l s0 (k + 1) = s := by
          show mcAS I o b0 l k (mcA I o b0 l s0 k) = _
          rw [es]
          unfold mcAS
          rw [if_neg hs, if_pos ht]
        exact ih (k + 1) (by omega) s ez9
      · refine a_iload_n 4 dChances_findMean_69 rfl rfl ?_
        refine a_iload 0 dChances_findMean_70 rfl ?_
        refine a_ishr dChances_findMean_72 ?_
        refine a_iconstN (a := 1) dChances_findMean_73 (by decide) ?_
        refine a_iand dChances_findMean_74 ?_
        refine a_iconstN (a := 1) dChances_findMean_75 (by decide) ?_
        refine a_icmp_ne (tgt := 113) dChances_findMean_76 (by decide) (fun c => False.elim (ht (has_0 c))) (fun _ => ?_)
        refine a_aload_n 1 dChances_findMean_79 rfl rfl ?_
        refine a_dup dChances_findMean_80 rfl ?_
        refine a_getl dChances_findMean_81 fl1_18 rfl ly_92 (by omega) ?_
        rw [show (chJ J s b1) 92 0 = s from by rfl]
        refine a_aload_n 2 dChances_findMean_84 rfl rfl ?_
        refine a_iload 5 dChances_findMean_85 rfl ?_
        refine a_iload 5 dChances_findMean_87 rfl ?_
        refine a_iload 0 dChances_findMean_89 rfl ?_
        refine a_icmp_neN (tgt := 98) dChances_findMean_91 (by decide) (by omega) (by omega) (fun c91 => ?_) (fun c91 => ?_)
        · refine a_aload_n 2 dChances_findMean_98 rfl rfl ?_
          refine a_geta (r := (o + 3)) dChances_findMean_99 fl1_57 rfl (of_l0 ho) (by omega) (hr 2 (by decide)) ?_
          refine a_iload 0 dChances_findMean_102 rfl ?_
          refine a_ialdN (a := k) dChances_findMean_104 (of_l3 ho) (by omega) (by omega) (by decide) ?_
          rw [show I (o + 3) k = I (o + 3) k from rfl]
          refine a_callV (Q' := m_res (some (.int (dsO I o l (I (o + 3) k)))) I (chJ J s b1) R) (as := [.int (nI l), .int (I (o + 3) k)]) (st := [.long s, .ref 92]) dChances_findMean_105 ml1_60 rfl (Nat.le_of_ble_eq_true rfl) (of_l0 ho) rfl rfl (by decide) (by omega) (Nat.le_of_ble_eq_true rfl) rfl (Nat.le_refl _) (Nat.le_refl _) (by obtain ⟨q9, hq9, e9⟩ := hW l (by omega); have h := c_Office_does (S := S) (d := d) (n := n) (J := (chJ J s b1)) (R := R) (I := I) ho hr hon (l := l) (q := q9) (x := (I (o + 3) k)) (by omega) e9 hq9 (hW.kok (by omega)); exact h) (m_go ?_)
          show AW _ _ _ _ _ _ _ _ [.int (dsO I o l (I (o + 3) k)), .long s, .ref 92] _ _ _ _
          refine a_i2l dChances_findMean_108 ?_
          refine a_ladd dChances_findMean_109 ?_
          refine a_putl dChances_findMean_110 fl1_18 rfl ly_92 (by omega) ?_
          rw [chJ_a]
          refine a_iincN (lv' := [(5, .int (nI (k + 1))), (0, .ref 92), (1, .ref o), (2, .int (nI h)), (3, .int b0), (4, .int (nI l))]) (j := 0) dChances_findMean_113 rfl (by decide) rfl ?_
          refine a_goto (tgt := 50) dChances_findMean_116 (by decide) ?_
          have ez9 : mcA I o b0 l s0 (k + 1) = (s + (Int32.toInt64 (dsO I o l (I (o + 3) k)))) := by
            show mcAS I o b0 l k (mcA I o b0 l s0 k) = _
            rw [es]
            unfold mcAS
            rw [if_neg hs, if_neg ht, if_neg (show ¬ (l = k) by omega)]
          exact ih (k + 1) (by omega) (s + (Int32.toInt64 (dsO I o l (I (o + 3) k)))) ez9
        · refine a_iconst (v := -1) dChances_findMean_94 (by decide) ?_
          refine a_goto (tgt := 105) dChances_findMean_95 (by decide) ?_
          refine a_callV (Q' := m_res (some (.int (dsO I o l (-1)))) I (chJ J s b1) R) (as := [.int (nI l), .int (-1)]) (st := [.long s, .ref 92]) dChances_findMean_105 ml1_60 rfl (Nat.le_of_ble_eq_true rfl) (of_l0 ho) rfl rfl (by decide) (by omega) (Nat.le_of_ble_eq_true rfl) rfl (Nat.le_refl _) (Nat.le_refl _) (by obtain ⟨q9, hq9, e9⟩ := hW l (by omega); have h := c_Office_does (S := S) (d := d) (n := n) (J := (chJ J s b1)) (R := R) (I := I) ho hr hon (l := l) (q := q9) (x := (-1)) (by omega) e9 hq9 kOK_m1; exact h) (m_go ?_)
          show AW _ _ _ _ _ _ _ _ [.int (dsO I o l (-1)), .long s, .ref 92] _ _ _ _
          refine a_i2l dChances_findMean_108 ?_
          refine a_ladd dChances_findMean_109 ?_
          refine a_putl dChances_findMean_110 fl1_18 rfl ly_92 (by omega) ?_
          rw [chJ_a]
          refine a_iincN (lv' := [(5, .int (nI (k + 1))), (0, .ref 92), (1, .ref o), (2, .int (nI h)), (3, .int b0), (4, .int (nI l))]) (j := 0) dChances_findMean_113 rfl (by decide) rfl ?_
          refine a_goto (tgt := 50) dChances_findMean_116 (by decide) ?_
          have ez9 : mcA I o b0 l s0 (k + 1) = (s + (Int32.toInt64 (dsO I o l (-1)))) := by
            show mcAS I o b0 l k (mcA I o b0 l s0 k) = _
            rw [es]
            unfold mcAS
            rw [if_neg hs, if_neg ht, if_pos (show l = k by omega)]
          exact ih (k + 1) (by omega) (s + (Int32.toInt64 (dsO I o l (-1)))) ez9
def mcBS (I : mI) (o nl : Nat) (b0 : Int32) (k : Nat) (s : Int64) : Int64 := (mcA I o b0 k s nl)
def mcB (I : mI) (o nl : Nat) (b0 : Int32) (s0 : Int64) : Nat → Int64
  | 0 => s0
  | k + 1 => mcBS I o nl b0 k (mcB I o nl b0 s0 k)
theorem l_mcB {S : Nat × (Nat → Int32)} {d n : Nat} {I : mI} {J : mJ} {R : mR} (hn : 122 ≤ n) (hR : m_fin R) {o nh nl : Nat} (ho : o ∈ m_offs) (hr : offR R o) (hon : o + 8 < n) (hh : I o 0 = nI nh) (hnh : nh ≤ 6) (hl : I o 1 = nI nl) (hnl : nl ≤ 10) (hW : WFc I o nl) (hH : WFh (I (o + 2)) nl) {b0 : Int32} {h : Nat} {b1 : Int64}  {s0 : Int64} {Q : Option Value → mI → mJ → mR → Prop}  (hx : AW S (d + 1) YChances_findMean n n Q 125 [(4, .int (nI nl)), (0, .ref 92), (1, .ref o), (2, .int (nI h)), (3, .int b0)] [] I (chJ J (mcB I o nl b0 s0 nl) b1) R n) : ∀ m k, k + m = nl → ∀ s : Int64, mcB I o nl b0 s0 k = s → AW S (d + 1) YChances_findMean n n Q 38 [(4, .int (nI k)), (0, .ref 92), (1, .ref o), (2, .int (nI h)), (3, .int b0)] [] I (chJ J s b1) R n := by
  intro m
  induction m with
  | zero =>
    intro k hk9 s es
    rw [show k = nl by omega] at es ⊢
    subst es
    refine a_iload 0 dChances_findMean_38 rfl ?_
    refine a_aload_n 2 dChances_findMean_40 rfl rfl ?_
    refine a_geti dChances_findMean_41 fl1_53 rfl (of_l0 ho) (by omega) ?_
    rw [show I o 1 = (nI nl) from hl]
    refine a_icmp_geN (tgt := 125) dChances_findMean_44 (by decide) (by omega) (by omega) (fun _ => ?_) (fun c => False.elim (by omega))
    exact hx
  | succ m ih =>
    intro k hk9 s es
    refine a_iload 0 dChances_findMean_38 rfl ?_
    refine a_aload_n 2 dChances_findMean_40 rfl rfl ?_
    refine a_geti dChances_findMean_41 fl1_53 rfl (of_l0 ho) (by omega) ?_
    rw [show I o 1 = (nI nl) from hl]
    refine a_icmp_geN (tgt := 125) dChances_findMean_44 (by decide) (by omega) (by omega) (fun c => False.elim (by omega)) (fun _ => ?_)
    refine a_iconstN (a := 0) dChances_findMean_47 (by decide) ?_
    refine a_istore (lv' := [(5, .int (nI 0)), (4, .int (nI k)), (0, .ref 92), (1, .ref o), (2, .int (nI h)), (3, .int b0)]) dChances_findMean_48 (by decide) rfl ?_
    refine a_locs (lv' := [(5, .int (nI 0)), (0, .ref 92), (1, .ref o), (2, .int (nI h)), (3, .int b0), (4, .int (nI k))]) [0, 2, 3, 4, 5, 1] rfl ?_
    refine l_mcA (s0 := s) hn hR ho hr hon hh hnh hl hnl hW hH (l := k) (by omega) ?_ nl 0 (by omega) _ rfl
    refine a_iincN (lv' := [(4, .int (nI (k + 1))), (5, .int (nI nl)), (0, .ref 92), (1, .ref o), (2, .int (nI h)), (3, .int b0)]) (j := 5) dChances_findMean_119 rfl (by decide) rfl ?_
    refine a_goto (tgt := 38) dChances_findMean_122 (by decide) ?_
    have ez9 : mcB I o nl b0 s0 (k + 1) = (mcA I o b0 k s nl) := by
      show mcBS I o nl b0 k (mcB I o nl b0 s0 k) = _
      rw [es]
      unfold mcBS
      rfl
    refine a_locs (lv' := [(4, .int (nI (k + 1))), (0, .ref 92), (1, .ref o), (2, .int (nI h)), (3, .int b0)]) [0, 2, 3, 4, 5] rfl ?_
    exact ih (k + 1) (by omega) (mcA I o b0 k s nl) ez9
/-- a house's letters, of an office of the class -/
abbrev ltC (I : mI) (o h nl : Nat) : Nat := ltN (I (o + 2)) (nI h) nl
abbrev mxC (I : mI) (o h nl : Nat) : Nat := max 1 (onesN (nI (ltC I o h nl)) 10)
abbrev meC (I : mI) (o h nl : Nat) : Int64 := mcB I o nl (nI (ltC I o h nl)) ((I (o + 1) h).toInt64 * lN (mxC I o h nl)) nl
theorem c_Chances_findMean {S : Nat × (Nat → Int32)} {d n : Nat} {I : mI} {J : mJ} {R : mR} (hn : 122 ≤ n) (hR : m_fin R) {o nh nl : Nat} (ho : o ∈ m_offs) (hr : offR R o) (hon : o + 8 < n) (hh : I o 0 = nI nh) (hnh : nh ≤ 6) (hl : I o 1 = nI nl) (hnl : nl ≤ 10) (hW : WFc I o nl) (hH : WFh (I (o + 2)) nl) {h : Nat} (hh6 : h < nh)  : RUN S (d + 1) YChances_findMean [.ref 92, .ref o, .int (nI h)] I J R n none I (chJ J (meC I o h nl) (lN (mxC I o h nl))) R n := by
  show AW S _ YChances_findMean n n _ 0 [(0, .ref 92), (1, .ref o), (2, .int (nI h))] [] I J R n
  have hlt := lt_lt (f := I (o + 2)) (h := nI h) (k := nl) hnl
  have ho10 := onesN_le (nI (ltN (I (o + 2)) (nI h) nl)) 10
  have hmx : mxC I o h nl ≤ 10 := Nat.max_le.mpr ⟨by decide, ho10⟩
  refine a_aload_n 1 dChances_findMean_0 rfl rfl ?_
  refine a_iload_n 2 dChances_findMean_1 rfl rfl ?_
  refine a_callV (Q' := m_res (some (.int (nI (ltN (I (o + 2)) (nI h) nl)))) I J R) (as := [.int (nI h)]) (st := []) dChances_findMean_2 ml1_35 rfl (Nat.le_of_ble_eq_true rfl) (of_l0 ho) rfl rfl (by decide) (by omega) (Nat.le_of_ble_eq_true rfl) rfl (Nat.le_refl _) (Nat.le_refl _) (by have h := c_Office_lettersOf (S := S) (d := d) (n := n) (J := J) (R := R) (I := I) (h := (nI h)) ho hr hon hl hnl; rw [lt_nI] at h; exact h) (m_go ?_)
  show AW _ _ _ _ _ _ _ _ [.int (nI (ltN (I (o + 2)) (nI h) nl))] _ _ _ _
  refine a_istore_n (lv' := [(3, .int (nI (ltN (I (o + 2)) (nI h) nl))), (0, .ref 92), (1, .ref o), (2, .int (nI h))]) dChances_findMean_5 rfl (by decide) rfl ?_
  refine a_aload_n 1 dChances_findMean_6 rfl rfl ?_
  refine a_iconstN (a := 1) dChances_findMean_7 (by decide) ?_
  refine a_iload_n 0 dChances_findMean_8 rfl rfl ?_
  refine a_callS (Q' := m_res (some (.int (nI (onesN (nI (ltN (I (o + 2)) (nI h) nl)) 10)))) I J R) (as := [.int (nI (ltN (I (o + 2)) (nI h) nl))]) (st := [.int (nI 1), .ref 92]) dChances_findMean_9 ml1_41 rfl (Nat.le_of_ble_eq_true rfl) (Nat.le_of_ble_eq_true rfl) rfl (Nat.le_refl _) (Nat.le_refl _) (c_bitCountN (by omega)) (m_go ?_)
  show AW _ _ _ _ _ _ _ _ [.int (nI (onesN (nI (ltN (I (o + 2)) (nI h) nl)) 10)), .int (nI 1), .ref 92] _ _ _ _
  refine a_max dChances_findMean_12 mm1_46 (Nat.le_of_ble_eq_true rfl) (Nat.le_refl _) ?_
  rw [show (if (nI 1) < (nI (onesN (nI (ltN (I (o + 2)) (nI h) nl)) 10)) then (nI (onesN (nI (ltN (I (o + 2)) (nI h) nl)) 10)) else (nI 1)) = (nI (mxC I o h nl)) from (max_nI (by omega) (by omega))]
  refine a_i2l dChances_findMean_15 ?_
  rw [show (Int32.toInt64 (nI (mxC I o h nl))) = (lN (mxC I o h nl)) from (nI_l (by omega))]
  refine a_putl dChances_findMean_16 fl1_28 rfl ly_92 (by omega) ?_
  rw [chJ_b0]
  refine a_aload_n 1 dChances_findMean_19 rfl rfl ?_
  refine a_aload_n 2 dChances_findMean_20 rfl rfl ?_
  refine a_geta (r := (o + 1)) dChances_findMean_21 fl1_50 rfl (of_l0 ho) (by omega) (hr 0 (by decide)) ?_
  refine a_iload_n 3 dChances_findMean_24 rfl rfl ?_
  refine a_ialdN (a := h) dChances_findMean_25 (of_l1 ho) (by omega) (by omega) (by decide) ?_
  rw [show I (o + 1) h = I (o + 1) h from rfl]
  refine a_i2l dChances_findMean_26 ?_
  refine a_aload_n 1 dChances_findMean_27 rfl rfl ?_
  refine a_getl dChances_findMean_28 fl1_28 rfl ly_92 (by omega) ?_
  rw [show (chJ J (J 92 0) (lN (mxC I o h nl))) 92 1 = (lN (mxC I o h nl)) from by rfl]
  refine a_lmul dChances_findMean_31 ?_
  refine a_putl dChances_findMean_32 fl1_18 rfl ly_92 (by omega) ?_
  rw [chJ_a]
  refine a_iconstN (a := 0) dChances_findMean_35 (by decide) ?_
  refine a_istore (lv' := [(4, .int (nI 0)), (3, .int (nI (ltN (I (o + 2)) (nI h) nl))), (0, .ref 92), (1, .ref o), (2, .int (nI h))]) dChances_findMean_36 (by decide) rfl ?_
  refine a_locs (lv' := [(4, .int (nI 0)), (0, .ref 92), (1, .ref o), (2, .int (nI h)), (3, .int (nI (ltN (I (o + 2)) (nI h) nl)))]) [0, 2, 3, 4, 1] rfl ?_
  refine l_mcB (s0 := ((Int32.toInt64 (I (o + 1) h)) * (lN (mxC I o h nl)))) hn hR ho hr hon hh hnh hl hnl hW hH (b0 := (nI (ltN (I (o + 2)) (nI h) nl))) (b1 := lN (mxC I o h nl)) ?_ nl 0 (by omega) _ rfl
  exact a_vret dChances_findMean_125 rfl ⟨rfl, rfl, rfl, rfl⟩
