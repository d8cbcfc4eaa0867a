/-- a row of w copied from place fr to place to, its first k -/
def cpRN (f : Nat → Int32) (w fr to : Nat) : Nat → Nat → Int32
  | 0 => f
  | k + 1 => va_up (cpRN f w fr to k) (w * to + k) (cpRN f w fr to k (w * fr + k))
theorem l_copyRow {S : Nat × (Nat → Int32)} {d n : Nat} {I : mI} {J : mJ} {R : mR} {a N w fr to : Nat} (hla : m_lay a = (50, N)) (han : a < n) (hN : N < 2 ^ 31) (hb1 : w * to + w ≤ N) (hb2 : w * fr + w ≤ N)  {Q : Option Value → mI → mJ → mR → Prop} (hQ : Q none (m_row I a (cpRN (I a) w fr to w)) J R) : ∀ m k, k + m = w → AW S d YM_copyRow n n Q 3 [(4, .int (nI k)), (0, .ref a), (1, .int (nI w)), (2, .int (nI fr)), (3, .int (nI to))] [] (m_row I a (cpRN (I a) w fr to k)) J R n := by
  intro m
  induction m with
  | zero =>
    intro k hk
    rw [show k = w by omega]
    refine a_iload 0 dM_copyRow_3 rfl ?_
    refine a_iload_n 2 dM_copyRow_5 rfl rfl ?_
    refine a_icmp_geN (tgt := 31) dM_copyRow_6 (by decide) (by omega) (by omega) (fun _ => ?_) (fun c => False.elim (by omega))
    exact a_vret dM_copyRow_31 rfl hQ
  | succ m ih =>
    intro k hk
    refine a_iload 0 dM_copyRow_3 rfl ?_
    refine a_iload_n 2 dM_copyRow_5 rfl rfl ?_
    refine a_icmp_geN (tgt := 31) dM_copyRow_6 (by decide) (by omega) (by omega) (fun c => False.elim (by omega)) (fun _ => ?_)
    refine a_aload_n 1 dM_copyRow_9 rfl rfl ?_
    refine a_iload_n 2 dM_copyRow_10 rfl rfl ?_
    refine a_iload_n 4 dM_copyRow_11 rfl rfl ?_
    refine a_imulN (a := w) (b := to) dM_copyRow_12 ?_
    refine a_iload 0 dM_copyRow_13 rfl ?_
    refine a_iaddN (a := (w * to)) (b := k) dM_copyRow_15 ?_
    refine a_aload_n 1 dM_copyRow_16 rfl rfl ?_
    refine a_iload_n 2 dM_copyRow_17 rfl rfl ?_
    refine a_iload_n 3 dM_copyRow_18 rfl rfl ?_
    refine a_imulN (a := w) (b := fr) dM_copyRow_19 ?_
    refine a_iload 0 dM_copyRow_20 rfl ?_
    refine a_iaddN (a := (w * fr)) (b := k) dM_copyRow_22 ?_
    refine a_ialdN (a := ((w * fr) + k)) dM_copyRow_23 hla (by omega) (by omega) (by omega) ?_
    rw [show (m_row I a (cpRN (I a) w fr to k)) a ((w * fr) + k) = cpRN (I a) w fr to k ((w * fr) + k) from (by rw [m_row_eq])]
    refine a_iastN (a := ((w * to) + k)) dM_copyRow_24 hla (by omega) (by omega) (by omega) ?_
    rw [m_up_r]
    refine a_iincN (lv' := [(4, .int (nI (k + 1))), (0, .ref a), (1, .int (nI w)), (2, .int (nI fr)), (3, .int (nI to))]) (j := 0) dM_copyRow_25 rfl (by decide) rfl ?_
    refine a_goto (tgt := 3) dM_copyRow_28 (by decide) ?_
    refine a_locs (lv' := [(4, .int (nI (k + 1))), (0, .ref a), (1, .int (nI w)), (2, .int (nI fr)), (3, .int (nI to))]) [0, 1, 2, 3, 4] rfl ?_
    have hh := ih (k + 1) (by omega)
    exact hh
theorem c_M_copyRow {S : Nat × (Nat → Int32)} {d n : Nat} {I : mI} {J : mJ} {R : mR} {a N w fr to : Nat} (hla : m_lay a = (50, N)) (han : a < n) (hN : N < 2 ^ 31) (hb1 : w * to + w ≤ N) (hb2 : w * fr + w ≤ N)  : RUN S d YM_copyRow [.ref a, .int (nI w), .int (nI fr), .int (nI to)] I J R n none (m_row I a (cpRN (I a) w fr to w)) J R n := by
  show AW S _ YM_copyRow n n _ 0 [(0, .ref a), (1, .int (nI w)), (2, .int (nI fr)), (3, .int (nI to))] [] I J R n
  refine a_iconstN (a := 0) dM_copyRow_0 (by decide) ?_
  refine a_istore (lv' := [(4, .int (nI 0)), (0, .ref a), (1, .int (nI w)), (2, .int (nI fr)), (3, .int (nI to))]) dM_copyRow_1 (by decide) rfl ?_
  have hh := l_copyRow (S := S) (d := d) (J := J) (R := R) (I := I) hla han hN hb1 hb2 (Q := m_res none (m_row I a (cpRN (I a) w fr to w)) J R) ⟨rfl, rfl, rfl, rfl⟩ w 0 (by omega)
  rw [show cpRN (I a) w fr to 0 = I a from rfl, m_row_self] at hh
  refine a_locs (lv' := [(4, .int (nI 0)), (0, .ref a), (1, .int (nI w)), (2, .int (nI fr)), (3, .int (nI to))]) [0, 1, 2, 3, 4] rfl ?_
  exact hh
def cpA (I : mI) (fr to : Nat) : mI := (m_row (m_row (m_row (m_row (m_row (m_row (m_row (m_row I 96 (cpRN (I 96) 600 fr to 600)) 97 (cpRN (I 97) 1 fr to 1)) 98 (cpRN (I 98) 1 fr to 1)) 99 (cpRN (I 99) 1 fr to 1)) 100 (cpRN (I 100) 3 fr to 3)) 101 (cpRN (I 101) 150 fr to 150)) 102 (cpRN (I 102) 242 fr to 242)) 103 (cpRN (I 103) 34 fr to 34))
theorem l_copyAll {S : Nat × (Nat → Int32)} {d n : Nat} {I : mI} {J : mJ} {R : mR} (hn : 122 ≤ n) (hR : m_fin R) {fr to : Nat} (hf : fr < 4) (ht : to < 4)  {Q : Option Value → mI → mJ → mR → Prop} (hx : AW S (d + 1) YM_copyAll n n Q 39 [(3, .int (nI 600)), (0, .ref 95), (1, .int (nI fr)), (2, .int (nI to))] [] (m_row I 96 (cpRN (I 96) 600 fr to 600)) J R n) : ∀ m k, k + m = 600 → AW S (d + 1) YM_copyAll n n Q 2 [(3, .int (nI k)), (0, .ref 95), (1, .int (nI fr)), (2, .int (nI to))] [] (m_row I 96 (cpRN (I 96) 600 fr to k)) J R n := by
  intro m
  induction m with
  | zero =>
    intro k hk
    rw [show k = 600 by omega]
    refine a_iload_n 0 dM_copyAll_2 rfl rfl ?_
    refine a_sipushN (a := 600) dM_copyAll_3 (by decide) ?_
    refine a_icmp_geN (tgt := 39) dM_copyAll_6 (by decide) (by omega) (by omega) (fun _ => ?_) (fun c => False.elim (by omega))
    exact hx
  | succ m ih =>
    intro k hk
    refine a_iload_n 0 dM_copyAll_2 rfl rfl ?_
    refine a_sipushN (a := 600) dM_copyAll_3 (by decide) ?_
    refine a_icmp_geN (tgt := 39) dM_copyAll_6 (by decide) (by omega) (by omega) (fun c => False.elim (by omega)) (fun _ => ?_)
    refine a_aload_n 1 dM_copyAll_9 rfl rfl ?_
    refine a_geta (r := 96) dM_copyAll_10 fl12_7 rfl ly_95 (by omega) (rf_95_1 hR) ?_
    refine a_sipushN (a := 600) dM_copyAll_13 (by decide) ?_
    refine a_iload_n 3 dM_copyAll_16 rfl rfl ?_
    refine a_imulN (a := 600) (b := to) dM_copyAll_17 ?_
    refine a_iload_n 0 dM_copyAll_18 rfl rfl ?_
    refine a_iaddN (a := (600 * to)) (b := k) dM_copyAll_19 ?_
    refine a_aload_n 1 dM_copyAll_20 rfl rfl ?_
    refine a_geta (r := 96) dM_copyAll_21 fl12_7 rfl ly_95 (by omega) (rf_95_1 hR) ?_
    refine a_sipushN (a := 600) dM_copyAll_24 (by decide) ?_
    refine a_iload_n 2 dM_copyAll_27 rfl rfl ?_
    refine a_imulN (a := 600) (b := fr) dM_copyAll_28 ?_
    refine a_iload_n 0 dM_copyAll_29 rfl rfl ?_
    refine a_iaddN (a := (600 * fr)) (b := k) dM_copyAll_30 ?_
    refine a_baldN (a := ((600 * fr) + k)) dM_copyAll_31 ly_96 (by omega) (by omega) (by decide) (fun hb31 => ?_)
    rw [show (m_row I 96 (cpRN (I 96) 600 fr to k)) 96 ((600 * fr) + k) = cpRN (I 96) 600 fr to k ((600 * fr) + k) from (by rw [m_row_eq])]
    refine a_bastN (a := ((600 * to) + k)) dM_copyAll_32 ly_96 (by omega) (by omega) (by decide) ?_
    rw [show (cpRN (I 96) 600 fr to k (600 * fr + k)).toInt8.toInt32 = cpRN (I 96) 600 fr to k (600 * fr + k) from (by rw [m_row_eq] at hb31; exact hb31), m_up_r]
    refine a_iincN (lv' := [(3, .int (nI (k + 1))), (0, .ref 95), (1, .int (nI fr)), (2, .int (nI to))]) (j := 0) dM_copyAll_33 rfl (by decide) rfl ?_
    refine a_goto (tgt := 2) dM_copyAll_36 (by decide) ?_
    refine a_locs (lv' := [(3, .int (nI (k + 1))), (0, .ref 95), (1, .int (nI fr)), (2, .int (nI to))]) [0, 1, 2, 3] rfl ?_
    have hh := ih (k + 1) (by omega)
    exact hh
theorem c_M_copyAll {S : Nat × (Nat → Int32)} {d n : Nat} {I : mI} {J : mJ} {R : mR} (hn : 122 ≤ n) (hR : m_fin R) {fr to : Nat} (hf : fr < 4) (ht : to < 4)  : RUN S (d + 1) YM_copyAll [.ref 95, .int (nI fr), .int (nI to)] I J R n none (cpA I fr to) J R n := by
  show AW S _ YM_copyAll n n _ 0 [(0, .ref 95), (1, .int (nI fr)), (2, .int (nI to))] [] I J R n
  refine a_iconstN (a := 0) dM_copyAll_0 (by decide) ?_
  refine a_istore_n (lv' := [(3, .int (nI 0)), (0, .ref 95), (1, .int (nI fr)), (2, .int (nI to))]) dM_copyAll_1 rfl (by decide) rfl ?_
  refine a_locs (lv' := [(3, .int (nI 0)), (0, .ref 95), (1, .int (nI fr)), (2, .int (nI to))]) [0, 1, 2, 3] rfl ?_
  have hh := l_copyAll (S := S) (d := d) (J := J) (R := R) (I := I) hn hR hf ht (Q := m_res none (cpA I fr to) J R) ?_ 600 0 (by omega)
  · rw [show cpRN (I 96) 600 fr to 0 = I 96 from rfl, m_row_self] at hh
    exact hh
  · skip
    refine a_aload_n 1 dM_copyAll_39 rfl rfl ?_
    refine a_geta (r := 97) dM_copyAll_40 fl12_13 rfl ly_95 (by omega) (rf_95_2 hR) ?_
    refine a_iconstN (a := 1) dM_copyAll_43 (by decide) ?_
    refine a_iload_n 2 dM_copyAll_44 rfl rfl ?_
    refine a_iload_n 3 dM_copyAll_45 rfl rfl ?_
    refine a_callS (Q' := m_res none (m_row (m_row I 96 (cpRN (I 96) 600 fr to 600)) 97 (cpRN (I 97) 1 fr to 1)) J R) (as := [.ref 97, .int (nI 1), .int (nI fr), .int (nI to)]) (st := []) dM_copyAll_46 ml12_98 rfl (Nat.le_of_ble_eq_true rfl) (Nat.le_of_ble_eq_true rfl) rfl (Nat.le_refl _) (Nat.le_refl _) (by have h := c_M_copyRow (S := S) (d := d) (n := n) (J := J) (R := R) (I := (m_row I 96 (cpRN (I 96) 600 fr to 600))) (a := 97) (w := 1) (fr := fr) (to := to) ly_97 (by omega) (by decide) (by omega) (by omega); exact h) (m_go ?_)
    show AW _ _ _ _ _ _ _ _ [] _ _ _ _
    refine a_aload_n 1 dM_copyAll_49 rfl rfl ?_
    refine a_geta (r := 98) dM_copyAll_50 fl12_17 rfl ly_95 (by omega) (rf_95_3 hR) ?_
    refine a_iconstN (a := 1) dM_copyAll_53 (by decide) ?_
    refine a_iload_n 2 dM_copyAll_54 rfl rfl ?_
    refine a_iload_n 3 dM_copyAll_55 rfl rfl ?_
    refine a_callS (Q' := m_res none (m_row (m_row (m_row I 96 (cpRN (I 96) 600 fr to 600)) 97 (cpRN (I 97) 1 fr to 1)) 98 (cpRN (I 98) 1 fr to 1)) J R) (as := [.ref 98, .int (nI 1), .int (nI fr), .int (nI to)]) (st := []) dM_copyAll_56 ml12_98 rfl (Nat.le_of_ble_eq_true rfl) (Nat.le_of_ble_eq_true rfl) rfl (Nat.le_refl _) (Nat.le_refl _) (by have h := c_M_copyRow (S := S) (d := d) (n := n) (J := J) (R := R) (I := (m_row (m_row I 96 (cpRN (I 96) 600 fr to 600)) 97 (cpRN (I 97) 1 fr to 1))) (a := 98) (w := 1) (fr := fr) (to := to) ly_98 (by omega) (by decide) (by omega) (by omega); exact h) (m_go ?_)
    show AW _ _ _ _ _ _ _ _ [] _ _ _ _
    refine a_aload_n 1 dM_copyAll_59 rfl rfl ?_
    refine a_geta (r := 99) dM_copyAll_60 fl12_20 rfl ly_95 (by omega) (rf_95_4 hR) ?_
    refine a_iconstN (a := 1) dM_copyAll_63 (by decide) ?_
    refine a_iload_n 2 dM_copyAll_64 rfl rfl ?_
    refine a_iload_n 3 dM_copyAll_65 rfl rfl ?_
    refine a_callS (Q' := m_res none (m_row (m_row (m_row (m_row I 96 (cpRN (I 96) 600 fr to 600)) 97 (cpRN (I 97) 1 fr to 1)) 98 (cpRN (I 98) 1 fr to 1)) 99 (cpRN (I 99) 1 fr to 1)) J R) (as := [.ref 99, .int (nI 1), .int (nI fr), .int (nI to)]) (st := []) dM_copyAll_66 ml12_98 rfl (Nat.le_of_ble_eq_true rfl) (Nat.le_of_ble_eq_true rfl) rfl (Nat.le_refl _) (Nat.le_refl _) (by have h := c_M_copyRow (S := S) (d := d) (n := n) (J := J) (R := R) (I := (m_row (m_row (m_row I 96 (cpRN (I 96) 600 fr to 600)) 97 (cpRN (I 97) 1 fr to 1)) 98 (cpRN (I 98) 1 fr to 1))) (a := 99) (w := 1) (fr := fr) (to := to) ly_99 (by omega) (by decide) (by omega) (by omega); exact h) (m_go ?_)
    show AW _ _ _ _ _ _ _ _ [] _ _ _ _
    refine a_aload_n 1 dM_copyAll_69 rfl rfl ?_
    refine a_geta (r := 100) dM_copyAll_70 fl12_23 rfl ly_95 (by omega) (rf_95_5 hR) ?_
    refine a_iconstN (a := 3) dM_copyAll_73 (by decide) ?_
    refine a_iload_n 2 dM_copyAll_74 rfl rfl ?_
    refine a_iload_n 3 dM_copyAll_75 rfl rfl ?_
    refine a_callS (Q' := m_res none (m_row (m_row (m_row (m_row (m_row I 96 (cpRN (I 96) 600 fr to 600)) 97 (cpRN (I 97) 1 fr to 1)) 98 (cpRN (I 98) 1 fr to 1)) 99 (cpRN (I 99) 1 fr to 1)) 100 (cpRN (I 100) 3 fr to 3)) J R) (as := [.ref 100, .int (nI 3), .int (nI fr), .int (nI to)]) (st := []) dM_copyAll_76 ml12_98 rfl (Nat.le_of_ble_eq_true rfl) (Nat.le_of_ble_eq_true rfl) rfl (Nat.le_refl _) (Nat.le_refl _) (by have h := c_M_copyRow (S := S) (d := d) (n := n) (J := J) (R := R) (I := (m_row (m_row (m_row (m_row I 96 (cpRN (I 96) 600 fr to 600)) 97 (cpRN (I 97) 1 fr to 1)) 98 (cpRN (I 98) 1 fr to 1)) 99 (cpRN (I 99) 1 fr to 1))) (a := 100) (w := 3) (fr := fr) (to := to) ly_100 (by omega) (by decide) (by omega) (by omega); exact h) (m_go ?_)
    show AW _ _ _ _ _ _ _ _ [] _ _ _ _
    refine a_aload_n 1 dM_copyAll_79 rfl rfl ?_
    refine a_geta (r := 101) dM_copyAll_80 fl12_26 rfl ly_95 (by omega) (rf_95_6 hR) ?_
    refine a_sipushN (a := 150) dM_copyAll_83 (by decide) ?_
    refine a_iload_n 2 dM_copyAll_86 rfl rfl ?_
    refine a_iload_n 3 dM_copyAll_87 rfl rfl ?_
    refine a_callS (Q' := m_res none (m_row (m_row (m_row (m_row (m_row (m_row I 96 (cpRN (I 96) 600 fr to 600)) 97 (cpRN (I 97) 1 fr to 1)) 98 (cpRN (I 98) 1 fr to 1)) 99 (cpRN (I 99) 1 fr to 1)) 100 (cpRN (I 100) 3 fr to 3)) 101 (cpRN (I 101) 150 fr to 150)) J R) (as := [.ref 101, .int (nI 150), .int (nI fr), .int (nI to)]) (st := []) dM_copyAll_88 ml12_98 rfl (Nat.le_of_ble_eq_true rfl) (Nat.le_of_ble_eq_true rfl) rfl (Nat.le_refl _) (Nat.le_refl _) (by have h := c_M_copyRow (S := S) (d := d) (n := n) (J := J) (R := R) (I := (m_row (m_row (m_row (m_row (m_row I 96 (cpRN (I 96) 600 fr to 600)) 97 (cpRN (I 97) 1 fr to 1)) 98 (cpRN (I 98) 1 fr to 1)) 99 (cpRN (I 99) 1 fr to 1)) 100 (cpRN (I 100) 3 fr to 3))) (a := 101) (w := 150) (fr := fr) (to := to) ly_101 (by omega) (by decide) (by omega) (by omega); exact h) (m_go ?_)
    show AW _ _ _ _ _ _ _ _ [] _ _ _ _
    refine a_aload_n 1 dM_copyAll_91 rfl rfl ?_
    refine a_geta (r := 102) dM_copyAll_92 fl12_29 rfl ly_95 (by omega) (rf_95_7 hR) ?_
    refine a_sipushN (a := 242) dM_copyAll_95 (by decide) ?_
    refine a_iload_n 2 dM_copyAll_98 rfl rfl ?_
    refine a_iload_n 3 dM_copyAll_99 rfl rfl ?_
    refine a_callS (Q' := m_res none (m_row (m_row (m_row (m_row (m_row (m_row (m_row I 96 (cpRN (I 96) 600 fr to 600)) 97 (cpRN (I 97) 1 fr to 1)) 98 (cpRN (I 98) 1 fr to 1)) 99 (cpRN (I 99) 1 fr to 1)) 100 (cpRN (I 100) 3 fr to 3)) 101 (cpRN (I 101) 150 fr to 150)) 102 (cpRN (I 102) 242 fr to 242)) J R) (as := [.ref 102, .int (nI 242), .int (nI fr), .int (nI to)]) (st := []) dM_copyAll_100 ml12_98 rfl (Nat.le_of_ble_eq_true rfl) (Nat.le_of_ble_eq_true rfl) rfl (Nat.le_refl _) (Nat.le_refl _) (by have h := c_M_copyRow (S := S) (d := d) (n := n) (J := J) (R := R) (I := (m_row (m_row (m_row (m_row (m_row (m_row I 96 (cpRN (I 96) 600 fr to 600)) 97 (cpRN (I 97) 1 fr to 1)) 98 (cpRN (I 98) 1 fr to 1)) 99 (cpRN (I 99) 1 fr to 1)) 100 (cpRN (I 100) 3 fr to 3)) 101 (cpRN (I 101) 150 fr to 150))) (a := 102) (w := 242) (fr := fr) (to := to) ly_102 (by omega) (by decide) (by omega) (by omega); exact h) (m_go ?_)
    show AW _ _ _ _ _ _ _ _ [] _ _ _ _
    refine a_aload_n 1 dM_copyAll_103 rfl rfl ?_
    refine a_geta (r := 103) dM_copyAll_104 fl12_32 rfl ly_95 (by omega) (rf_95_8 hR) ?_
    refine a_bipushN (a := 34) dM_copyAll_107 (by decide) ?_
    refine a_iload_n 2 dM_copyAll_109 rfl rfl ?_
    refine a_iload_n 3 dM_copyAll_110 rfl rfl ?_
    refine a_callS (Q' := m_res none (m_row (m_row (m_row (m_row (m_row (m_row (m_row (m_row I 96 (cpRN (I 96) 600 fr to 600)) 97 (cpRN (I 97) 1 fr to 1)) 98 (cpRN (I 98) 1 fr to 1)) 99 (cpRN (I 99) 1 fr to 1)) 100 (cpRN (I 100) 3 fr to 3)) 101 (cpRN (I 101) 150 fr to 150)) 102 (cpRN (I 102) 242 fr to 242)) 103 (cpRN (I 103) 34 fr to 34)) J R) (as := [.ref 103, .int (nI 34), .int (nI fr), .int (nI to)]) (st := []) dM_copyAll_111 ml12_98 rfl (Nat.le_of_ble_eq_true rfl) (Nat.le_of_ble_eq_true rfl) rfl (Nat.le_refl _) (Nat.le_refl _) (by have h := c_M_copyRow (S := S) (d := d) (n := n) (J := J) (R := R) (I := (m_row (m_row (m_row (m_row (m_row (m_row (m_row I 96 (cpRN (I 96) 600 fr to 600)) 97 (cpRN (I 97) 1 fr to 1)) 98 (cpRN (I 98) 1 fr to 1)) 99 (cpRN (I 99) 1 fr to 1)) 100 (cpRN (I 100) 3 fr to 3)) 101 (cpRN (I 101) 150 fr to 150)) 102 (cpRN (I 102) 242 fr to 242))) (a := 103) (w := 34) (fr := fr) (to := to) ly_103 (by omega) (by decide) (by omega) (by omega); exact h) (m_go ?_)
    show AW _ _ _ _ _ _ _ _ [] _ _ _ _
    exact a_vret dM_copyAll_114 rfl ⟨rfl, rfl, rfl, rfl⟩
theorem c_M_inE {S : Nat × (Nat → Int32)} {d n : Nat} {I : mI} {J : mJ} {R : mR} {v lo hi x : Int32} (hx : f_in v lo hi = x) : RUN S d YM_in [.int v, .int lo, .int hi] I J R n (some (.int x)) I J R n := by
  have h := c_M_in (S := S) (d := d) (n := n) (I := I) (J := J) (R := R) (v := v) (lo := lo) (hi := hi)
  rw [hx] at h
  exact h
theorem c_M_image0 {S : Nat × (Nat → Int32)} {d n : Nat} {I : mI} {J : mJ} {R : mR} (hn : 122 ≤ n) (hR : m_fin R) {x : Int32} (hx : f_in x (nI 0) (nI 2) = 0)  : RUN S (d + 1) YM_image [.ref 95, .int x] I J R n (some (.int 0)) (m_up I 95 0 0) J R n := by
  show AW S _ YM_image n n _ 0 [(0, .ref 95), (1, .int x)] [] I J R n
  refine a_aload_n 0 dM_image_0 rfl rfl ?_
  refine a_iconstN (a := 0) dM_image_1 (by decide) ?_
  refine a_puti dM_image_2 fl12_90 rfl ly_95 (by omega) ?_
  skip
  refine a_iload_n 1 dM_image_5 rfl rfl ?_
  refine a_iconstN (a := 0) dM_image_6 (by decide) ?_
  refine a_iconstN (a := 2) dM_image_7 (by decide) ?_
  refine a_callS (Q' := m_res (some (.int 0)) (m_up I 95 0 0) J R) (as := [.int x, .int (nI 0), .int (nI 2)]) (st := []) dM_image_8 ml12_102 rfl (Nat.le_of_ble_eq_true rfl) (Nat.le_of_ble_eq_true rfl) rfl (Nat.le_refl _) (Nat.le_refl _) (c_M_inE hx) (m_go ?_)
  show AW _ _ _ _ _ _ _ _ [.int 0] _ _ _ _
  refine a_if_ne (tgt := 16) dM_image_11 (by decide) (fun c => False.elim (c rfl)) (fun _ => ?_)
  refine a_iconstN (a := 0) dM_image_14 (by decide) ?_
  exact a_zret dM_image_15 rfl (by rfl) ⟨rfl, rfl, rfl, rfl⟩
theorem c_M_image1 {S : Nat × (Nat → Int32)} {d n : Nat} {I : mI} {J : mJ} {R : mR} (hn : 122 ≤ n) (hR : m_fin R) {k : Nat} (hk : k < 3)  : RUN S (d + 2) YM_image [.ref 95, .int (nI k)] I J R n (some (.int 1)) (m_up (cpA (m_up I 95 0 0) 0 (k + 1)) 121 k 1) J R n := by
  show AW S _ YM_image n n _ 0 [(0, .ref 95), (1, .int (nI k))] [] I J R n
  refine a_aload_n 0 dM_image_0 rfl rfl ?_
  refine a_iconstN (a := 0) dM_image_1 (by decide) ?_
  refine a_puti dM_image_2 fl12_90 rfl ly_95 (by omega) ?_
  skip
  refine a_iload_n 1 dM_image_5 rfl rfl ?_
  refine a_iconstN (a := 0) dM_image_6 (by decide) ?_
  refine a_iconstN (a := 2) dM_image_7 (by decide) ?_
  refine a_callS (Q' := m_res (some (.int 1)) (m_up I 95 0 0) J R) (as := [.int (nI k), .int (nI 0), .int (nI 2)]) (st := []) dM_image_8 ml12_102 rfl (Nat.le_of_ble_eq_true rfl) (Nat.le_of_ble_eq_true rfl) rfl (Nat.le_refl _) (Nat.le_refl _) (c_M_inE (f_in_n (Nat.zero_le _) (by omega) (by decide))) (m_go ?_)
  show AW _ _ _ _ _ _ _ _ [.int 1] _ _ _ _
  refine a_if_ne (tgt := 16) dM_image_11 (by decide) (fun _ => ?_) (fun c => False.elim (absurd c (by decide)))
  refine a_aload_n 0 dM_image_16 rfl rfl ?_
  refine a_iconstN (a := 0) dM_image_17 (by decide) ?_
  refine a_iload_n 1 dM_image_18 rfl rfl ?_
  refine a_iconstN (a := 1) dM_image_19 (by decide) ?_
  refine a_iaddN (a := k) (b := 1) dM_image_20 ?_
  refine a_callV (Q' := m_res none (cpA (m_up I 95 0 0) 0 (k + 1)) J R) (as := [.int (nI 0), .int (nI (k + 1))]) (st := []) dM_image_21 ml12_506 rfl (Nat.le_of_ble_eq_true rfl) ly_95 rfl rfl (by decide) (by omega) (Nat.le_of_ble_eq_true rfl) rfl (Nat.le_refl _) (Nat.le_refl _) (c_M_copyAll hn hR (by omega) (by omega)) (m_go ?_)
  show AW _ _ _ _ _ _ _ _ [] _ _ _ _
  refine a_aload_n 0 dM_image_24 rfl rfl ?_
  refine a_geta (r := 121) dM_image_25 fl12_87 rfl ly_95 (by omega) (rf_95_54 hR) ?_
  refine a_iload_n 1 dM_image_28 rfl rfl ?_
  refine a_iconstN (a := 1) dM_image_29 (by decide) ?_
  refine a_zastN (a := k) (by decide) dM_image_30 ly_121 (by omega) (by omega) (by decide) ?_
  refine a_iconstN (a := 1) dM_image_31 (by decide) ?_
  exact a_zret dM_image_32 rfl (by rfl) ⟨rfl, rfl, rfl, rfl⟩
theorem c_M_again0 {S : Nat × (Nat → Int32)} {d n : Nat} {I : mI} {J : mJ} {R : mR} (hn : 122 ≤ n) (hR : m_fin R) {x : Int32} (hx : f_in x (nI 0) (nI 2) = 0)  : RUN S (d + 1) YM_again [.ref 95, .int x] I J R n (some (.int 0)) (m_up I 95 0 0) J R n := by
  show AW S _ YM_again n n _ 0 [(0, .ref 95), (1, .int x)] [] I J R n
  refine a_aload_n 0 dM_again_0 rfl rfl ?_
  refine a_iconstN (a := 0) dM_again_1 (by decide) ?_
  refine a_puti dM_again_2 fl12_90 rfl ly_95 (by omega) ?_
  skip
  refine a_iload_n 1 dM_again_5 rfl rfl ?_
  refine a_iconstN (a := 0) dM_again_6 (by decide) ?_
  refine a_iconstN (a := 2) dM_again_7 (by decide) ?_
  refine a_callS (Q' := m_res (some (.int 0)) (m_up I 95 0 0) J R) (as := [.int x, .int (nI 0), .int (nI 2)]) (st := []) dM_again_8 ml12_102 rfl (Nat.le_of_ble_eq_true rfl) (Nat.le_of_ble_eq_true rfl) rfl (Nat.le_refl _) (Nat.le_refl _) (c_M_inE hx) (m_go ?_)
  show AW _ _ _ _ _ _ _ _ [.int 0] _ _ _ _
  refine a_if_eq (tgt := 23) dM_again_11 (by decide) (fun _ => ?_) (fun c => False.elim (c rfl))
  refine a_iconstN (a := 0) dM_again_23 (by decide) ?_
  exact a_zret dM_again_24 rfl (by rfl) ⟨rfl, rfl, rfl, rfl⟩
theorem c_M_again2 {S : Nat × (Nat → Int32)} {d n : Nat} {I : mI} {J : mJ} {R : mR} (hn : 122 ≤ n) (hR : m_fin R) {k : Nat} (hk : k < 3) (hkp : I 121 k = 0)  : RUN S (d + 2) YM_again [.ref 95, .int (nI k)] I J R n (some (.int 0)) (m_up I 95 0 0) J R n := by
  show AW S _ YM_again n n _ 0 [(0, .ref 95), (1, .int (nI k))] [] I J R n
  refine a_aload_n 0 dM_again_0 rfl rfl ?_
  refine a_iconstN (a := 0) dM_again_1 (by decide) ?_
  refine a_puti dM_again_2 fl12_90 rfl ly_95 (by omega) ?_
  skip
  refine a_iload_n 1 dM_again_5 rfl rfl ?_
  refine a_iconstN (a := 0) dM_again_6 (by decide) ?_
  refine a_iconstN (a := 2) dM_again_7 (by decide) ?_
  refine a_callS (Q' := m_res (some (.int 1)) (m_up I 95 0 0) J R) (as := [.int (nI k), .int (nI 0), .int (nI 2)]) (st := []) dM_again_8 ml12_102 rfl (Nat.le_of_ble_eq_true rfl) (Nat.le_of_ble_eq_true rfl) rfl (Nat.le_refl _) (Nat.le_refl _) (c_M_inE (f_in_n (Nat.zero_le _) (by omega) (by decide))) (m_go ?_)
  show AW _ _ _ _ _ _ _ _ [.int 1] _ _ _ _
  refine a_if_eq (tgt := 23) dM_again_11 (by decide) (fun c => False.elim (absurd c (by decide))) (fun _ => ?_)
  refine a_aload_n 0 dM_again_14 rfl rfl ?_
  refine a_geta (r := 121) dM_again_15 fl12_87 rfl ly_95 (by omega) (rf_95_54 hR) ?_
  refine a_iload_n 1 dM_again_18 rfl rfl ?_
  refine a_zaldN (a := k) dM_again_19 ly_121 (by omega) (by omega) (by decide) ?_
  rw [show (m_up I 95 0 0) 121 k = 0 from hkp]
  refine a_if_ne (tgt := 25) dM_again_20 (by decide) (fun c => False.elim (c rfl)) (fun _ => ?_)
  refine a_iconstN (a := 0) dM_again_23 (by decide) ?_
  exact a_zret dM_again_24 rfl (by rfl) ⟨rfl, rfl, rfl, rfl⟩
theorem c_M_again1 {S : Nat × (Nat → Int32)} {d n : Nat} {I : mI} {J : mJ} {R : mR} (hn : 122 ≤ n) (hR : m_fin R) {k : Nat} (hk : k < 3) (hkp : I 121 k = 1)  : RUN S (d + 2) YM_again [.ref 95, .int (nI k)] I J R n (some (.int 1)) (cpA (m_up I 95 0 0) (k + 1) 0) J R n := by
  show AW S _ YM_again n n _ 0 [(0, .ref 95), (1, .int (nI k))] [] I J R n
  refine a_aload_n 0 dM_again_0 rfl rfl ?_
  refine a_iconstN (a := 0) dM_again_1 (by decide) ?_
  refine a_puti dM_again_2 fl12_90 rfl ly_95 (by omega) ?_
  skip
  refine a_iload_n 1 dM_again_5 rfl rfl ?_
  refine a_iconstN (a := 0) dM_again_6 (by decide) ?_
  refine a_iconstN (a := 2) dM_again_7 (by decide) ?_
  refine a_callS (Q' := m_res (some (.int 1)) (m_up I 95 0 0) J R) (as := [.int (nI k), .int (nI 0), .int (nI 2)]) (st := []) dM_again_8 ml12_102 rfl (Nat.le_of_ble_eq_true rfl) (Nat.le_of_ble_eq_true rfl) rfl (Nat.le_refl _) (Nat.le_refl _) (c_M_inE (f_in_n (Nat.zero_le _) (by omega) (by decide))) (m_go ?_)
  show AW _ _ _ _ _ _ _ _ [.int 1] _ _ _ _
  refine a_if_eq (tgt := 23) dM_again_11 (by decide) (fun c => False.elim (absurd c (by decide))) (fun _ => ?_)
  refine a_aload_n 0 dM_again_14 rfl rfl ?_
  refine a_geta (r := 121) dM_again_15 fl12_87 rfl ly_95 (by omega) (rf_95_54 hR) ?_
  refine a_iload_n 1 dM_again_18 rfl rfl ?_
  refine a_zaldN (a := k) dM_again_19 ly_121 (by omega) (by omega) (by decide) ?_
  rw [show (m_up I 95 0 0) 121 k = 1 from hkp]
  refine a_if_ne (tgt := 25) dM_again_20 (by decide) (fun _ => ?_) (fun c => False.elim (absurd c (by decide)))
  refine a_aload_n 0 dM_again_25 rfl rfl ?_
  refine a_iload_n 1 dM_again_26 rfl rfl ?_
  refine a_iconstN (a := 1) dM_again_27 (by decide) ?_
  refine a_iaddN (a := k) (b := 1) dM_again_28 ?_
  refine a_iconstN (a := 0) dM_again_29 (by decide) ?_
  refine a_callV (Q' := m_res none (cpA (m_up I 95 0 0) (k + 1) 0) J R) (as := [.int (nI (k + 1)), .int (nI 0)]) (st := []) dM_again_30 ml12_506 rfl (Nat.le_of_ble_eq_true rfl) ly_95 rfl rfl (by decide) (by omega) (Nat.le_of_ble_eq_true rfl) rfl (Nat.le_refl _) (Nat.le_refl _) (c_M_copyAll hn hR (by omega) (by omega)) (m_go ?_)
  show AW _ _ _ _ _ _ _ _ [] _ _ _ _
  refine a_iconstN (a := 1) dM_again_33 (by decide) ?_
  exact a_zret dM_again_34 rfl (by rfl) ⟨rfl, rfl, rfl, rfl⟩
theorem offR_rf {R : mR} {o : Nat} : offR (rfOffice R o) o := by
  intro k hk
  unfold rfOffice
  rcases (show k = 0 ∨ k = 1 ∨ k = 2 ∨ k = 3 ∨ k = 4 ∨ k = 5 ∨ k = 6 ∨ k = 7 by omega) with h | h | h | h | h | h | h | h <;> subst h <;> simp [m_up, va_up]
theorem wkR_rf {R : mR} {o : Nat} : wkR (rfWeek R o) o := by
  intro k hk
  unfold rfWeek
  rcases (show k = 0 ∨ k = 1 ∨ k = 2 by omega) with h | h | h <;> subst h <;> simp [m_up, va_up]
theorem lgR_rf {R : mR} {o : Nat} : lgR (rfLog R o) o := by
  intro k hk
  unfold rfLog
  rcases (show k = 0 ∨ k = 1 by omega) with h | h <;> subst h <;> simp [m_up, va_up]
theorem rfOffice_o {R : mR} {o a : Nat} (h : a ≠ o) : rfOffice R o a = R a := by
  unfold rfOffice
  simp only [m_up_ne h]
theorem rfWeek_o {R : mR} {o a : Nat} (h : a ≠ o) : rfWeek R o a = R a := by
  unfold rfWeek
  simp only [m_up_ne h]
theorem rfLog_o {R : mR} {o a : Nat} (h : a ≠ o) : rfLog R o a = R a := by
  unfold rfLog
  simp only [m_up_ne h]
theorem offR_c {R R' : mR} {o : Nat} (h : R' o = R o) (hr : offR R o) : offR R' o := fun k hk => by rw [h]; exact hr k hk
theorem wkR_c {R R' : mR} {o : Nat} (h : R' o = R o) (hr : wkR R o) : wkR R' o := fun k hk => by rw [h]; exact hr k hk
theorem lgR_c {R R' : mR} {o : Nat} (h : R' o = R o) (hr : lgR R o) : lgR R' o := fun k hk => by rw [h]; exact hr k hk
theorem tolR_c {R R' : mR} {t : Nat} (h : ∀ q, q < 38 → R' (t + q) = R (t + q)) (hr : tolR R t) : tolR R' t :=
  ⟨by rw [show R' t = R t from h 0 (by decide)]; exact hr.tp, by rw [show R' t = R t from h 0 (by decide)]; exact hr.cs, by rw [show R' t = R t from h 0 (by decide)]; exact hr.os, by rw [show R' t = R t from h 0 (by decide)]; exact hr.ws, by rw [show R' t = R t from h 0 (by decide)]; exact hr.gs,
   by rw [h 3 (by decide)]; exact hr.o0, by rw [h 3 (by decide)]; exact hr.o1, by rw [h 22 (by decide)]; exact hr.w0, by rw [h 22 (by decide)]; exact hr.w1, by rw [h 31 (by decide)]; exact hr.g0, by rw [h 31 (by decide)]; exact hr.g1,
   offR_c (h 4 (by decide)) hr.oo0, offR_c (h 13 (by decide)) hr.oo1, wkR_c (h 23 (by decide)) hr.ww0, wkR_c (h 27 (by decide)) hr.ww1, lgR_c (h 32 (by decide)) hr.gg0, lgR_c (h 35 (by decide)) hr.gg1⟩
theorem rfTold_o {R : mR} {t a : Nat} (h : a < t ∨ t + 37 < a) : rfTold R t a = R a := by
  unfold rfTold
  simp only [m_up_ne (show a ≠ t by omega), m_up_ne (show a ≠ t + 3 by omega), m_up_ne (show a ≠ t + 22 by omega), m_up_ne (show a ≠ t + 31 by omega), rfOffice_o (show a ≠ t + 4 by omega), rfOffice_o (show a ≠ t + 13 by omega), rfWeek_o (show a ≠ t + 23 by omega), rfWeek_o (show a ≠ t + 27 by omega), rfLog_o (show a ≠ t + 32 by omega), rfLog_o (show a ≠ t + 35 by omega)]
theorem tolR_rf {R : mR} {t : Nat} : tolR (rfTold R t) t := by
  have a0 : ∀ k : Nat, k ≠ 0 → t ≠ t + k := fun k h => by omega
  have b0 : ∀ k l : Nat, k ≠ l → t + k ≠ t + l := fun k l h => by omega
  unfold rfTold
  refine ⟨?_, ?_, ?_, ?_, ?_, ?_, ?_, ?_, ?_, ?_, ?_, ?_, ?_, ?_, ?_, ?_, ?_⟩
  iterate 11 (simp only [m_up_eq, m_up_ne (a0 3 (by decide)), m_up_ne (a0 22 (by decide)), m_up_ne (a0 31 (by decide)), rfOffice_o (a0 4 (by decide)), rfOffice_o (a0 13 (by decide)), rfWeek_o (a0 23 (by decide)), rfWeek_o (a0 27 (by decide)), rfLog_o (a0 32 (by decide)), rfLog_o (a0 35 (by decide)), m_up_ne (b0 3 22 (by decide)), m_up_ne (b0 3 31 (by decide)), m_up_ne (b0 22 31 (by decide)), m_up_ne (a0 3 (by decide)).symm, m_up_ne (a0 22 (by decide)).symm, m_up_ne (a0 31 (by decide)).symm, rfOffice_o (b0 3 13 (by decide)), rfWeek_o (b0 3 23 (by decide)), rfWeek_o (b0 3 27 (by decide)), rfLog_o (b0 3 32 (by decide)), rfLog_o (b0 3 35 (by decide)), rfWeek_o (b0 22 27 (by decide)), rfLog_o (b0 22 32 (by decide)), rfLog_o (b0 22 35 (by decide)), rfLog_o (b0 31 35 (by decide)), va_up]; simp)
  · refine offR_c (R := rfOffice (m_up (m_up R t 0 (some (t + 1))) t 4 (some (t + 2))) (t + 4)) ?_ offR_rf
    simp only [m_up_ne (show t + 4 ≠ t by omega), m_up_ne (show t + 4 ≠ t + 3 by omega), m_up_ne (show t + 4 ≠ t + 22 by omega), m_up_ne (show t + 4 ≠ t + 31 by omega), rfOffice_o (show t + 4 ≠ t + 13 by omega), rfWeek_o (show t + 4 ≠ t + 23 by omega), rfWeek_o (show t + 4 ≠ t + 27 by omega), rfLog_o (show t + 4 ≠ t + 32 by omega), rfLog_o (show t + 4 ≠ t + 35 by omega)]
  · refine offR_c (R := rfOffice (m_up (rfOffice (m_up (m_up R t 0 (some (t + 1))) t 4 (some (t + 2))) (t + 4)) (t + 3) 0 (some (t + 4))) (t + 13)) ?_ offR_rf
    simp only [m_up_ne (show t + 13 ≠ t by omega), m_up_ne (show t + 13 ≠ t + 3 by omega), m_up_ne (show t + 13 ≠ t + 22 by omega), m_up_ne (show t + 13 ≠ t + 31 by omega), rfOffice_o (show t + 13 ≠ t + 4 by omega), rfWeek_o (show t + 13 ≠ t + 23 by omega), rfWeek_o (show t + 13 ≠ t + 27 by omega), rfLog_o (show t + 13 ≠ t + 32 by omega), rfLog_o (show t + 13 ≠ t + 35 by omega)]
  · refine wkR_c (R := rfWeek (m_up (m_up (rfOffice (m_up (rfOffice (m_up (m_up R t 0 (some (t + 1))) t 4 (some (t + 2))) (t + 4)) (t + 3) 0 (some (t + 4))) (t + 13)) (t + 3) 1 (some (t + 13))) t 5 (some (t + 3))) (t + 23)) ?_ wkR_rf
    simp only [m_up_ne (show t + 23 ≠ t by omega), m_up_ne (show t + 23 ≠ t + 3 by omega), m_up_ne (show t + 23 ≠ t + 22 by omega), m_up_ne (show t + 23 ≠ t + 31 by omega), rfOffice_o (show t + 23 ≠ t + 4 by omega), rfOffice_o (show t + 23 ≠ t + 13 by omega), rfWeek_o (show t + 23 ≠ t + 27 by omega), rfLog_o (show t + 23 ≠ t + 32 by omega), rfLog_o (show t + 23 ≠ t + 35 by omega)]
  · refine wkR_c (R := rfWeek (m_up (rfWeek (m_up (m_up (rfOffice (m_up (rfOffice (m_up (m_up R t 0 (some (t + 1))) t 4 (some (t + 2))) (t + 4)) (t + 3) 0 (some (t + 4))) (t + 13)) (t + 3) 1 (some (t + 13))) t 5 (some (t + 3))) (t + 23)) (t + 22) 0 (some (t + 23))) (t + 27)) ?_ wkR_rf
    simp only [m_up_ne (show t + 27 ≠ t by omega), m_up_ne (show t + 27 ≠ t + 3 by omega), m_up_ne (show t + 27 ≠ t + 22 by omega), m_up_ne (show t + 27 ≠ t + 31 by omega), rfOffice_o (show t + 27 ≠ t + 4 by omega), rfOffice_o (show t + 27 ≠ t + 13 by omega), rfWeek_o (show t + 27 ≠ t + 23 by omega), rfLog_o (show t + 27 ≠ t + 32 by omega), rfLog_o (show t + 27 ≠ t + 35 by omega)]
  · refine lgR_c (R := rfLog (m_up (m_up (rfWeek (m_up (rfWeek (m_up (m_up (rfOffice (m_up (rfOffice (m_up (m_up R t 0 (some (t + 1))) t 4 (some (t + 2))) (t + 4)) (t + 3) 0 (some (t + 4))) (t + 13)) (t + 3) 1 (some (t + 13))) t 5 (some (t + 3))) (t + 23)) (t + 22) 0 (some (t + 23))) (t + 27)) (t + 22) 1 (some (t + 27))) t 6 (some (t + 22))) (t + 32)) ?_ lgR_rf
    simp only [m_up_ne (show t + 32 ≠ t by omega), m_up_ne (show t + 32 ≠ t + 3 by omega), m_up_ne (show t + 32 ≠ t + 22 by omega), m_up_ne (show t + 32 ≠ t + 31 by omega), rfOffice_o (show t + 32 ≠ t + 4 by omega), rfOffice_o (show t + 32 ≠ t + 13 by omega), rfWeek_o (show t + 32 ≠ t + 23 by omega), rfWeek_o (show t + 32 ≠ t + 27 by omega), rfLog_o (show t + 32 ≠ t + 35 by omega)]
  · refine lgR_c (R := rfLog (m_up (rfLog (m_up (m_up (rfWeek (m_up (rfWeek (m_up (m_up (rfOffice (m_up (rfOffice (m_up (m_up R t 0 (some (t + 1))) t 4 (some (t + 2))) (t + 4)) (t + 3) 0 (some (t + 4))) (t + 13)) (t + 3) 1 (some (t + 13))) t 5 (some (t + 3))) (t + 23)) (t + 22) 0 (some (t + 23))) (t + 27)) (t + 22) 1 (some (t + 27))) t 6 (some (t + 22))) (t + 32)) (t + 31) 0 (some (t + 32))) (t + 35)) ?_ lgR_rf
    simp only [m_up_ne (show t + 35 ≠ t by omega), m_up_ne (show t + 35 ≠ t + 3 by omega), m_up_ne (show t + 35 ≠ t + 22 by omega), m_up_ne (show t + 35 ≠ t + 31 by omega), rfOffice_o (show t + 35 ≠ t + 4 by omega), rfOffice_o (show t + 35 ≠ t + 13 by omega), rfWeek_o (show t + 35 ≠ t + 23 by omega), rfWeek_o (show t + 35 ≠ t + 27 by omega), rfLog_o (show t + 35 ≠ t + 32 by omega)]
theorem m_fin_c {R R' : mR} (h : m_fin R) (e : ∀ q ∈ m_refs, R' q.1 q.2.1 = R q.1 q.2.1) : m_fin R' := fun q hq => by rw [e q hq]; exact h q hq
theorem m_fin_im {R : mR} {t k : Nat} (h : m_fin R) (ht : 122 ≤ t) : m_fin (m_up (rfTold R t) 39 k (some t)) := by
  refine m_fin_c h (fun q hq => ?_)
  have h1 : q.1 < 122 ∧ q.1 ≠ 39 := (show ∀ q ∈ m_refs, q.1 < 122 ∧ q.1 ≠ 39 by decide +kernel) q hq
  rw [m_up_ne h1.2, rfTold_o (by omega)]
theorem c_S_image0 {S : Nat × (Nat → Int32)} {d n : Nat} {I : mI} {J : mJ} {R : mR} (hn : 122 ≤ n) (hR : m_fin R) {x : Int32} (hx : x < 0 ∨ nI 3 ≤ x)  : RUN S (d + 1) YS_image [.ref 0, .int x] I J R n (some (.int 0)) I J R n := by
  show AW S _ YS_image n n _ 0 [(0, .ref 0), (1, .int x)] [] I J R n
  refine a_iload_n 1 dS_image_0 rfl rfl ?_
  refine a_if_lt (tgt := 9) dS_image_1 (by decide) (fun c1 => ?_) (fun c1 => ?_)
  · refine a_iconstN (a := 0) dS_image_9 (by decide) ?_
    exact a_zret dS_image_10 rfl (by rfl) ⟨rfl, rfl, rfl, rfl⟩
  · refine a_iload_n 1 dS_image_4 rfl rfl ?_
    refine a_iconstN (a := 3) dS_image_5 (by decide) ?_
    refine a_icmp_lt (tgt := 11) dS_image_6 (by decide) (fun c6 => ?_) (fun c6 => ?_)
    · exfalso
      rcases hx with h | h
      · exact c1 h
      · exact absurd c6 (Int32.not_lt.mpr h)
    · refine a_iconstN (a := 0) dS_image_9 (by decide) ?_
      exact a_zret dS_image_10 rfl (by rfl) ⟨rfl, rfl, rfl, rfl⟩
theorem c_S_again0 {S : Nat × (Nat → Int32)} {d n : Nat} {I : mI} {J : mJ} {R : mR} (hn : 122 ≤ n) (hR : m_fin R) {x : Int32} (hx : x < 0 ∨ nI 3 ≤ x)  : RUN S (d + 1) YS_again [.ref 0, .int x] I J R n (some (.int 0)) I J R n := by
  show AW S _ YS_again n n _ 0 [(0, .ref 0), (1, .int x)] [] I J R n
  refine a_iload_n 1 dS_again_0 rfl rfl ?_
  refine a_if_lt (tgt := 18) dS_again_1 (by decide) (fun c1 => ?_) (fun c1 => ?_)
  · refine a_iconstN (a := 0) dS_again_18 (by decide) ?_
    exact a_zret dS_again_19 rfl (by rfl) ⟨rfl, rfl, rfl, rfl⟩
  · refine a_iload_n 1 dS_again_4 rfl rfl ?_
    refine a_iconstN (a := 3) dS_again_5 (by decide) ?_
    refine a_icmp_ge (tgt := 18) dS_again_6 (by decide) (fun c6 => ?_) (fun c6 => ?_)
    · refine a_iconstN (a := 0) dS_again_18 (by decide) ?_
      exact a_zret dS_again_19 rfl (by rfl) ⟨rfl, rfl, rfl, rfl⟩
    · exfalso
      rcases hx with h | h
      · exact c1 h
      · exact absurd h c6
theorem c_S_image1 {S : Nat × (Nat → Int32)} {d n : Nat} {I : mI} {J : mJ} {R : mR} (hn : 122 ≤ n) (hR : m_fin R) {k : Nat} (hk : k < 3) {t : Nat} (ht : t ∈ m_tlds) (htr : tolR R t) (htn : t + 37 < n) (hne : t ≠ 1) (hkt : R 39 k = some t)  : RUN S (d + 3) YS_image [.ref 0, .int (nI k)] I J R n (some (.int 1)) (cpB I 1 t cplTold) J R n := by
  show AW S _ YS_image n n _ 0 [(0, .ref 0), (1, .int (nI k))] [] I J R n
  refine a_iload_n 1 dS_image_0 rfl rfl ?_
  refine a_if_lt (tgt := 9) dS_image_1 (by decide) (fun c => False.elim (nI_pos (by omega) c)) (fun _ => ?_)
  refine a_iload_n 1 dS_image_4 rfl rfl ?_
  refine a_iconstN (a := 3) dS_image_5 (by decide) ?_
  refine a_icmp_ltN (tgt := 11) dS_image_6 (by decide) (by omega) (by omega) (fun _ => ?_) (fun c => False.elim (by omega))
  refine a_aload_n 0 dS_image_11 rfl rfl ?_
  refine a_geta (r := 39) dS_image_12 fl11_16 rfl ly_0 (by omega) (rf_0_1 hR) ?_
  refine a_iload_n 1 dS_image_15 rfl rfl ?_
  refine a_aaldN2 (r := t) dS_image_16 ly_39 (by omega) (by omega) (by omega) (by omega) (by decide) hkt ?_
  refine a_ifnonnull (tgt := 33) dS_image_17 (by decide) ?_
  refine a_aload_n 0 dS_image_33 rfl rfl ?_
  refine a_geta (r := 39) dS_image_34 fl11_16 rfl ly_0 (by omega) (rf_0_1 hR) ?_
  refine a_iload_n 1 dS_image_37 rfl rfl ?_
  refine a_aaldN2 (r := t) dS_image_38 ly_39 (by omega) (by omega) (by omega) (by omega) (by decide) hkt ?_
  refine a_aload_n 0 dS_image_39 rfl rfl ?_
  refine a_geta (r := 1) dS_image_40 fl11_10 rfl ly_0 (by omega) (rf_0_0 hR) ?_
  refine a_callV (Q' := m_res none (cpB I 1 t cplTold) J R) (as := [.ref 1]) (st := []) dS_image_43 ml11_288 rfl (Nat.le_of_ble_eq_true rfl) (tl_0 ht) rfl rfl (by decide) (by omega) (Nat.le_of_ble_eq_true rfl) rfl (Nat.le_refl _) (Nat.le_refl _) (c_Told_copyFrom ht htr htn (by decide) (tolR_1 hR) (by omega) hne) (m_go ?_)
  show AW _ _ _ _ _ _ _ _ [] _ _ _ _
  refine a_iconstN (a := 1) dS_image_46 (by decide) ?_
  exact a_zret dS_image_47 rfl (by rfl) ⟨rfl, rfl, rfl, rfl⟩
theorem c_S_again1 {S : Nat × (Nat → Int32)} {d n : Nat} {I : mI} {J : mJ} {R : mR} (hn : 122 ≤ n) (hR : m_fin R) {k : Nat} (hk : k < 3) {t : Nat} (ht : t ∈ m_tlds) (htr : tolR R t) (htn : t + 37 < n) (hne : t ≠ 1) (hkt : R 39 k = some t)  : RUN S (d + 3) YS_again [.ref 0, .int (nI k)] I J R n (some (.int 1)) (cpB I t 1 cplTold) J R n := by
  show AW S _ YS_again n n _ 0 [(0, .ref 0), (1, .int (nI k))] [] I J R n
  refine a_iload_n 1 dS_again_0 rfl rfl ?_
  refine a_if_lt (tgt := 18) dS_again_1 (by decide) (fun c => False.elim (nI_pos (by omega) c)) (fun _ => ?_)
  refine a_iload_n 1 dS_again_4 rfl rfl ?_
  refine a_iconstN (a := 3) dS_again_5 (by decide) ?_
  refine a_icmp_geN (tgt := 18) dS_again_6 (by decide) (by omega) (by omega) (fun c => False.elim (by omega)) (fun _ => ?_)
  refine a_aload_n 0 dS_again_9 rfl rfl ?_
  refine a_geta (r := 39) dS_again_10 fl11_16 rfl ly_0 (by omega) (rf_0_1 hR) ?_
  refine a_iload_n 1 dS_again_13 rfl rfl ?_
  refine a_aaldN2 (r := t) dS_again_14 ly_39 (by omega) (by omega) (by omega) (by omega) (by decide) hkt ?_
  refine a_ifnonnull (tgt := 20) dS_again_15 (by decide) ?_
  refine a_aload_n 0 dS_again_20 rfl rfl ?_
  refine a_geta (r := 1) dS_again_21 fl11_10 rfl ly_0 (by omega) (rf_0_0 hR) ?_
  refine a_aload_n 0 dS_again_24 rfl rfl ?_
  refine a_geta (r := 39) dS_again_25 fl11_16 rfl ly_0 (by omega) (rf_0_1 hR) ?_
  refine a_iload_n 1 dS_again_28 rfl rfl ?_
  refine a_aaldN2 (r := t) dS_again_29 ly_39 (by omega) (by omega) (by omega) (by omega) (by decide) hkt ?_
  refine a_callV (Q' := m_res none (cpB I t 1 cplTold) J R) (as := [.ref t]) (st := []) dS_again_30 ml11_288 rfl (Nat.le_of_ble_eq_true rfl) ly_1 rfl rfl (by decide) (by omega) (Nat.le_of_ble_eq_true rfl) rfl (Nat.le_refl _) (Nat.le_refl _) (c_Told_copyFrom (by decide) (tolR_1 hR) (by omega) ht htr htn (fun q => hne q.symm)) (m_go ?_)
  show AW _ _ _ _ _ _ _ _ [] _ _ _ _
  refine a_iconstN (a := 1) dS_again_33 (by decide) ?_
  exact a_zret dS_again_34 rfl (by rfl) ⟨rfl, rfl, rfl, rfl⟩
theorem c_S_again2 {S : Nat × (Nat → Int32)} {d n : Nat} {I : mI} {J : mJ} {R : mR} (hn : 122 ≤ n) (hR : m_fin R) {k : Nat} (hk : k < 3) (hkt : R 39 k = none)  : RUN S (d + 3) YS_again [.ref 0, .int (nI k)] I J R n (some (.int 0)) I J R n := by
  show AW S _ YS_again n n _ 0 [(0, .ref 0), (1, .int (nI k))] [] I J R n
  refine a_iload_n 1 dS_again_0 rfl rfl ?_
  refine a_if_lt (tgt := 18) dS_again_1 (by decide) (fun c => False.elim (nI_pos (by omega) c)) (fun _ => ?_)
  refine a_iload_n 1 dS_again_4 rfl rfl ?_
  refine a_iconstN (a := 3) dS_again_5 (by decide) ?_
  refine a_icmp_geN (tgt := 18) dS_again_6 (by decide) (by omega) (by omega) (fun c => False.elim (by omega)) (fun _ => ?_)
  refine a_aload_n 0 dS_again_9 rfl rfl ?_
  refine a_geta (r := 39) dS_again_10 fl11_16 rfl ly_0 (by omega) (rf_0_1 hR) ?_
  refine a_iload_n 1 dS_again_13 rfl rfl ?_
  refine a_aaldN dS_again_14 ly_39 (by omega) (by omega) (by omega) (vp_in_nI (by omega) (by decide)) (by rw [nI_clamp (by omega)]; exact hkt) ?_
  refine a_ifnonnullN dS_again_15 ?_
  refine a_iconstN (a := 0) dS_again_18 (by decide) ?_
  exact a_zret dS_again_19 rfl (by rfl) ⟨rfl, rfl, rfl, rfl⟩
theorem c_S_image2 {S : Nat × (Nat → Int32)} {d : Nat} {I : mI} {J : mJ} {R : mR} (hR : m_fin R) {k : Nat} (hk : k < 3) {t : Nat} (ht : t ∈ m_tlds) (ht2 : 122 ≤ t) (hkt : R 39 k = none) (hz : zr I J R t) : RUN S (d + 3) YS_image [.ref 0, .int (nI k)] I J R t (some (.int 1)) (cpB (m_up I t 3 (-1)) 1 t cplTold) J (m_up (rfTold R t) 39 k (some t)) (t + 38) := by
  have h6 : t < 1000 := (show ∀ t ∈ m_tlds, t < 1000 by decide +kernel) t ht
  have htr2 : tolR (m_up (rfTold R t) 39 k (some t)) t := tolR_c (fun q hq => m_up_ne (show t + q ≠ 39 by omega)) tolR_rf
  show AW S _ YS_image t (t + 38) _ 0 [(0, .ref 0), (1, .int (nI k))] [] I J R t
  refine a_iload_n 1 dS_image_0 rfl rfl ?_
  refine a_if_lt (tgt := 9) dS_image_1 (by decide) (fun c => False.elim (nI_pos (by omega) c)) (fun _ => ?_)
  refine a_iload_n 1 dS_image_4 rfl rfl ?_
  refine a_iconstN (a := 3) dS_image_5 (by decide) ?_
  refine a_icmp_ltN (tgt := 11) dS_image_6 (by decide) (by omega) (by omega) (fun _ => ?_) (fun c => False.elim (by omega))
  refine a_aload_n 0 dS_image_11 rfl rfl ?_
  refine a_geta (r := 39) dS_image_12 fl11_16 rfl ly_0 (by omega) (rf_0_1 hR) ?_
  refine a_iload_n 1 dS_image_15 rfl rfl ?_
  refine a_aaldN dS_image_16 ly_39 (by omega) (by omega) (by omega) (vp_in_nI (by omega) (by decide)) (by rw [nI_clamp (by omega)]; exact hkt) ?_
  refine a_ifnonnullN dS_image_17 ?_
  refine a_aload_n 0 dS_image_20 rfl rfl ?_
  refine a_geta (r := 39) dS_image_21 fl11_16 rfl ly_0 (by omega) (rf_0_1 hR) ?_
  refine a_iload_n 1 dS_image_24 rfl rfl ?_
  refine a_newZ hz dS_image_25 kl11_7 (tl_0 ht) (by omega) (by omega) ?_
  show AW _ _ _ _ _ _ _ _ _ _ _ _ (t + 1)
  refine a_dup dS_image_28 rfl ?_
  refine a_callN (Q' := m_res none (m_up I t 3 (-1)) J (rfTold R t)) (as := []) (st := [.ref t, .int (nI k), .ref 39]) dS_image_29 ml11_9 rfl (Nat.le_of_ble_eq_true rfl) (Nat.le_of_ble_eq_true rfl) rfl (by omega) (by omega) (c_Told_init (t := t) ht (zr_s hz)) (m_go ?_)
  show AW _ _ _ _ _ _ _ _ [.ref t, .int (nI k), .ref 39] _ _ _ _
  refine a_aast dS_image_32 ly_39 (by decide) (by omega) (vp_in_nI (by omega) (by decide)) (tl_0 ht) (by decide) rfl (fun _ => rfl) (by omega) ?_
  rw [nI_clamp (show k < 2 ^ 31 by omega)]
  refine a_aload_n 0 dS_image_33 rfl rfl ?_
  refine a_geta (r := 39) dS_image_34 fl11_16 rfl ly_0 (by omega) (rf_0_1 (show m_fin (m_up (rfTold R t) 39 k (some t)) from m_fin_im hR (by omega))) ?_
  refine a_iload_n 1 dS_image_37 rfl rfl ?_
  refine a_aaldN2 (r := t) dS_image_38 ly_39 (by omega) (by omega) (by omega) (by omega) (by decide) m_up_at ?_
  refine a_aload_n 0 dS_image_39 rfl rfl ?_
  refine a_geta (r := 1) dS_image_40 fl11_10 rfl ly_0 (by omega) (rf_0_0 (show m_fin (m_up (rfTold R t) 39 k (some t)) from m_fin_im hR (by omega))) ?_
  refine a_callV (Q' := m_res none (cpB (m_up I t 3 (-1)) 1 t cplTold) J (m_up (rfTold R t) 39 k (some t))) (as := [.ref 1]) (st := []) dS_image_43 ml11_288 rfl (Nat.le_of_ble_eq_true rfl) (tl_0 ht) rfl rfl (by decide) (by omega) (Nat.le_of_ble_eq_true rfl) rfl (Nat.le_refl _) (Nat.le_refl _) (c_Told_copyFrom ht htr2 (by omega) (by decide) (tolR_1 (m_fin_im hR (by omega))) (by omega) (by omega)) (m_go ?_)
  show AW _ _ _ _ _ _ _ _ [] _ _ _ _
  refine a_iconstN (a := 1) dS_image_46 (by decide) ?_
  exact a_zret dS_image_47 rfl (by rfl) ⟨rfl, rfl, rfl, rfl⟩
