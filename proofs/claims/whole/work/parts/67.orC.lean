abbrev oM (I : mI) (f g k dg ga : Nat → Int32) : mI := m_row (m_row (m_row (m_row (m_row I 64 f) 65 g) 66 k) 67 dg) 68 ga
theorem oM_self {I : mI} : oM I (I 64) (I 65) (I 66) (I 67) (I 68) = I := by
  unfold oM
  rw [m_row_id (M := m_row (m_row (m_row (m_row I 64 (I 64)) 65 (I 65)) 66 (I 66)) 67 (I 67)) (n := 68) (f := I 68) rfl, m_row_id (M := m_row (m_row (m_row I 64 (I 64)) 65 (I 65)) 66 (I 66)) (n := 67) (f := I 67) rfl, m_row_id (M := m_row (m_row I 64 (I 64)) 65 (I 65)) (n := 66) (f := I 66) rfl, m_row_id (M := m_row I 64 (I 64)) (n := 65) (f := I 65) rfl, m_row_self]
def adDS (I : mI) (o l sz : Nat) (sg : Int32) (k : Nat) (s : (Nat → Int32)) : (Nat → Int32) := (if k = 4 then (va_up s ((5 * sz) + k) (sg * (dsO I o l (-1)))) else (va_up s ((5 * sz) + k) (sg * (dsO I o l (nI k)))))
def adD (I : mI) (o l sz : Nat) (sg : Int32) (s0 : (Nat → Int32)) : Nat → (Nat → Int32)
  | 0 => s0
  | k + 1 => adDS I o l sz sg k (adD I o l sz sg s0 k)
theorem l_adD {S : Nat × (Nat → Int32)} {d n : Nat} {I : mI} {J : mJ} {R : mR} (hn : 122 ≤ n) (hR : m_fin R) {o nh nl : Nat} (ho : o ∈ m_offs) (hr : offR R o) (hon : o + 8 < n) (hh : I o 0 = nI nh) (hnh : nh ≤ 6) (hl : I o 1 = nI nl) (hnl : nl ≤ 10) (hW : WFc I o nl) (hH : WFh (I (o + 2)) nl) {f g k0 ga : Nat → Int32} {l sz : Nat} {sg : Int32} (hln : l < nl) (hsz : sz < 10)  {s0 : (Nat → Int32)} {Q : Option Value → mI → mJ → mR → Prop}  (hx : AW S (d + 1) YOrders_addToGroup n n Q 77 [(4, .int (nI 5)), (0, .ref 64), (1, .ref o), (2, .int (nI l)), (3, .int sg)] [] (m_row (m_row (m_row (m_row (m_row I 64 (va_up f 2 (nI sz))) 65 g) 66 k0) 67 (adD I o l sz sg s0 5)) 68 ga) J R n) : ∀ m k, k + m = 5 → ∀ s : (Nat → Int32), adD I o l sz sg s0 k = s → AW S (d + 1) YOrders_addToGroup n n Q 28 [(4, .int (nI k)), (0, .ref 64), (1, .ref o), (2, .int (nI l)), (3, .int sg)] [] (m_row (m_row (m_row (m_row (m_row I 64 (va_up f 2 (nI sz))) 65 g) 66 k0) 67 s) 68 ga) J R n := by
  intro m
  induction m with
  | zero =>
    intro k hk9 s es
    rw [show k = 5 by omega] at es ⊢
    subst es
    refine a_iload 0 dOrders_addToGroup_28 rfl ?_
    refine a_iconstN (a := 5) dOrders_addToGroup_30 (by decide) ?_
    refine a_icmp_geN (tgt := 77) dOrders_addToGroup_31 (by decide) (by omega) (by omega) (fun _ => ?_) (fun c => False.elim (by omega))
    exact hx
  | succ m ih =>
    intro k hk9 s es
    refine a_iload 0 dOrders_addToGroup_28 rfl ?_
    refine a_iconstN (a := 5) dOrders_addToGroup_30 (by decide) ?_
    refine a_icmp_geN (tgt := 77) dOrders_addToGroup_31 (by decide) (by omega) (by omega) (fun c => False.elim (by omega)) (fun _ => ?_)
    refine a_iload 0 dOrders_addToGroup_34 rfl ?_
    refine a_iconstN (a := 4) dOrders_addToGroup_36 (by decide) ?_
    refine a_icmp_neN (tgt := 44) dOrders_addToGroup_37 (by decide) (by omega) (by omega) (fun c37 => ?_) (fun c37 => ?_)
    · refine a_iload 0 dOrders_addToGroup_44 rfl ?_
      refine a_istore (lv' := [(5, .int (nI k)), (4, .int (nI k)), (0, .ref 64), (1, .ref o), (2, .int (nI l)), (3, .int sg)]) dOrders_addToGroup_46 (by decide) rfl ?_
      refine a_aload_n 2 dOrders_addToGroup_48 rfl rfl ?_
      refine a_geta (r := 67) dOrders_addToGroup_49 fl5_18 rfl ly_64 (by omega) (rf_64_5 hR) ?_
      refine a_iconstN (a := 5) dOrders_addToGroup_52 (by decide) ?_
      refine a_aload_n 2 dOrders_addToGroup_53 rfl rfl ?_
      refine a_geti dOrders_addToGroup_54 fl5_37 rfl ly_64 (by omega) ?_
      rw [show (m_row (m_row (m_row (m_row (m_row I 64 (va_up f 2 (nI sz))) 65 g) 66 k0) 67 s) 68 ga) 64 2 = (nI sz) from rfl]
      refine a_imulN (a := 5) (b := sz) dOrders_addToGroup_57 ?_
      refine a_iload 1 dOrders_addToGroup_58 rfl ?_
      refine a_iaddN (a := (5 * sz)) (b := k) dOrders_addToGroup_60 ?_
      refine a_iload_n 5 dOrders_addToGroup_61 rfl rfl ?_
      refine a_aload_n 3 dOrders_addToGroup_62 rfl rfl ?_
      refine a_iload_n 4 dOrders_addToGroup_63 rfl rfl ?_
      refine a_iload 0 dOrders_addToGroup_64 rfl ?_
      refine a_callV (Q' := m_res (some (.int (dsO I o l (nI k)))) (m_row (m_row (m_row (m_row (m_row I 64 (va_up f 2 (nI sz))) 65 g) 66 k0) 67 s) 68 ga) J R) (as := [.int (nI l), .int (nI k)]) (st := [.int sg, .int (nI ((5 * sz) + k)), .ref 67]) dOrders_addToGroup_66 ml5_59 rfl (Nat.le_of_ble_eq_true rfl) (of_l0 ho) rfl rfl (by decide) (by omega) (Nat.le_of_ble_eq_true rfl) rfl (Nat.le_refl _) (Nat.le_refl _) (by obtain ⟨q9, hq9, e9⟩ := hW l (by omega); have h := c_Office_does (S := S) (d := d) (n := n) (J := J) (R := R) (I := (m_row (m_row (m_row (m_row (m_row I 64 (va_up f 2 (nI sz))) 65 g) 66 k0) 67 s) 68 ga)) ho hr hon (l := l) (q := q9) (x := (nI k)) (by omega) (by rw [off_row ho (by decide) (by decide), off_row ho (by decide) (by decide), off_row ho (by decide) (by decide), off_row ho (by decide) (by decide), off_row ho (by decide) (by decide)]; exact e9) hq9 (kOK_n (by omega)); rw [dsO_row ho (by decide), dsO_row ho (by decide), dsO_row ho (by decide), dsO_row ho (by decide), dsO_row ho (by decide)] at h; exact h) (m_go ?_)
      show AW _ _ _ _ _ _ _ _ [.int (dsO I o l (nI k)), .int sg, .int (nI ((5 * sz) + k)), .ref 67] _ _ _ _
      refine a_imul dOrders_addToGroup_69 ?_
      refine a_iastN (a := ((5 * sz) + k)) dOrders_addToGroup_70 ly_67 (by omega) (by omega) (by decide) ?_
      rw [show m_up (m_row (m_row (m_row (m_row (m_row I 64 (va_up f 2 (nI sz))) 65 g) 66 k0) 67 s) 68 ga) 67 ((5 * sz) + k) (sg * (dsO I o l (nI k))) = (m_row (m_row (m_row (m_row (m_row I 64 (va_up f 2 (nI sz))) 65 g) 66 k0) 67 (va_up s ((5 * sz) + k) (sg * (dsO I o l (nI k))))) 68 ga) from (by rw [m_up_comm (by decide), m_up_r])]
      refine a_iincN (lv' := [(4, .int (nI (k + 1))), (5, .int (nI k)), (0, .ref 64), (1, .ref o), (2, .int (nI l)), (3, .int sg)]) (j := 1) dOrders_addToGroup_71 rfl (by decide) rfl ?_
      refine a_goto (tgt := 28) dOrders_addToGroup_74 (by decide) ?_
      have ez9 : adD I o l sz sg s0 (k + 1) = (va_up s ((5 * sz) + k) (sg * (dsO I o l (nI k)))) := by
        show adDS I o l sz sg k (adD I o l sz sg s0 k) = _
        rw [es]
        unfold adDS
        rw [if_neg (show ¬ (k = 4) by omega)]
      refine a_locs (lv' := [(4, .int (nI (k + 1))), (0, .ref 64), (1, .ref o), (2, .int (nI l)), (3, .int sg)]) [0, 2, 3, 4, 5] rfl ?_
      exact ih (k + 1) (by omega) (va_up s ((5 * sz) + k) (sg * (dsO I o l (nI k)))) ez9
    · refine a_iconst (v := -1) dOrders_addToGroup_40 (by decide) ?_
      refine a_goto (tgt := 46) dOrders_addToGroup_41 (by decide) ?_
      refine a_istore (lv' := [(5, .int (-1)), (4, .int (nI k)), (0, .ref 64), (1, .ref o), (2, .int (nI l)), (3, .int sg)]) dOrders_addToGroup_46 (by decide) rfl ?_
      refine a_aload_n 2 dOrders_addToGroup_48 rfl rfl ?_
      refine a_geta (r := 67) dOrders_addToGroup_49 fl5_18 rfl ly_64 (by omega) (rf_64_5 hR) ?_
      refine a_iconstN (a := 5) dOrders_addToGroup_52 (by decide) ?_
      refine a_aload_n 2 dOrders_addToGroup_53 rfl rfl ?_
      refine a_geti dOrders_addToGroup_54 fl5_37 rfl ly_64 (by omega) ?_
      rw [show (m_row (m_row (m_row (m_row (m_row I 64 (va_up f 2 (nI sz))) 65 g) 66 k0) 67 s) 68 ga) 64 2 = (nI sz) from rfl]
      refine a_imulN (a := 5) (b := sz) dOrders_addToGroup_57 ?_
      refine a_iload 1 dOrders_addToGroup_58 rfl ?_
      refine a_iaddN (a := (5 * sz)) (b := k) dOrders_addToGroup_60 ?_
      refine a_iload_n 5 dOrders_addToGroup_61 rfl rfl ?_
      refine a_aload_n 3 dOrders_addToGroup_62 rfl rfl ?_
      refine a_iload_n 4 dOrders_addToGroup_63 rfl rfl ?_
      refine a_iload 0 dOrders_addToGroup_64 rfl ?_
      refine a_callV (Q' := m_res (some (.int (dsO I o l (-1)))) (m_row (m_row (m_row (m_row (m_row I 64 (va_up f 2 (nI sz))) 65 g) 66 k0) 67 s) 68 ga) J R) (as := [.int (nI l), .int (-1)]) (st := [.int sg, .int (nI ((5 * sz) + k)), .ref 67]) dOrders_addToGroup_66 ml5_59 rfl (Nat.le_of_ble_eq_true rfl) (of_l0 ho) rfl rfl (by decide) (by omega) (Nat.le_of_ble_eq_true rfl) rfl (Nat.le_refl _) (Nat.le_refl _) (by obtain ⟨q9, hq9, e9⟩ := hW l (by omega); have h := c_Office_does (S := S) (d := d) (n := n) (J := J) (R := R) (I := (m_row (m_row (m_row (m_row (m_row I 64 (va_up f 2 (nI sz))) 65 g) 66 k0) 67 s) 68 ga)) ho hr hon (l := l) (q := q9) (x := (-1)) (by omega) (by rw [off_row ho (by decide) (by decide), off_row ho (by decide) (by decide), off_row ho (by decide) (by decide), off_row ho (by decide) (by decide), off_row ho (by decide) (by decide)]; exact e9) hq9 kOK_m1; rw [dsO_row ho (by decide), dsO_row ho (by decide), dsO_row ho (by decide), dsO_row ho (by decide), dsO_row ho (by decide)] at h; exact h) (m_go ?_)
      show AW _ _ _ _ _ _ _ _ [.int (dsO I o l (-1)), .int sg, .int (nI ((5 * sz) + k)), .ref 67] _ _ _ _
      refine a_imul dOrders_addToGroup_69 ?_
      refine a_iastN (a := ((5 * sz) + k)) dOrders_addToGroup_70 ly_67 (by omega) (by omega) (by decide) ?_
      rw [show m_up (m_row (m_row (m_row (m_row (m_row I 64 (va_up f 2 (nI sz))) 65 g) 66 k0) 67 s) 68 ga) 67 ((5 * sz) + k) (sg * (dsO I o l (-1))) = (m_row (m_row (m_row (m_row (m_row I 64 (va_up f 2 (nI sz))) 65 g) 66 k0) 67 (va_up s ((5 * sz) + k) (sg * (dsO I o l (-1))))) 68 ga) from (by rw [m_up_comm (by decide), m_up_r])]
      refine a_iincN (lv' := [(4, .int (nI (k + 1))), (5, .int (-1)), (0, .ref 64), (1, .ref o), (2, .int (nI l)), (3, .int sg)]) (j := 1) dOrders_addToGroup_71 rfl (by decide) rfl ?_
      refine a_goto (tgt := 28) dOrders_addToGroup_74 (by decide) ?_
      have ez9 : adD I o l sz sg s0 (k + 1) = (va_up s ((5 * sz) + k) (sg * (dsO I o l (-1)))) := by
        show adDS I o l sz sg k (adD I o l sz sg s0 k) = _
        rw [es]
        unfold adDS
        rw [if_pos (show k = 4 by omega)]
      refine a_locs (lv' := [(4, .int (nI (k + 1))), (0, .ref 64), (1, .ref o), (2, .int (nI l)), (3, .int sg)]) [0, 2, 3, 4, 5] rfl ?_
      exact ih (k + 1) (by omega) (va_up s ((5 * sz) + k) (sg * (dsO I o l (-1)))) ez9
theorem c_addToGroup {S : Nat × (Nat → Int32)} {d n : Nat} {I : mI} {J : mJ} {R : mR} (hn : 122 ≤ n) (hR : m_fin R) {o nh nl : Nat} (ho : o ∈ m_offs) (hr : offR R o) (hon : o + 8 < n) (hh : I o 0 = nI nh) (hnh : nh ≤ 6) (hl : I o 1 = nI nl) (hnl : nl ≤ 10) (hW : WFc I o nl) (hH : WFh (I (o + 2)) nl) {f g k0 dg ga : Nat → Int32} {l sz : Nat} {sg : Int32} (hln : l < nl) (hsz : sz < 10)  : RUN S (d + 1) YOrders_addToGroup [.ref 64, .ref o, .int (nI l), .int sg] (m_row (m_row (m_row (m_row (m_row I 64 (va_up f 2 (nI sz))) 65 g) 66 k0) 67 dg) 68 ga) J R n none (m_row (m_row (m_row (m_row (m_row I 64 (va_up f 2 (nI (sz + 1)))) 65 (va_up g sz (nI l))) 66 (va_up k0 sz (I (o + 3) l))) 67 (adD I o l sz sg dg 5)) 68 ga) J R n := by
  show AW S _ YOrders_addToGroup n n _ 0 [(0, .ref 64), (1, .ref o), (2, .int (nI l)), (3, .int sg)] [] (m_row (m_row (m_row (m_row (m_row I 64 (va_up f 2 (nI sz))) 65 g) 66 k0) 67 dg) 68 ga) J R n
  refine a_aload_n 0 dOrders_addToGroup_0 rfl rfl ?_
  refine a_geta (r := 65) dOrders_addToGroup_1 fl5_9 rfl ly_64 (by omega) (rf_64_3 hR) ?_
  refine a_aload_n 0 dOrders_addToGroup_4 rfl rfl ?_
  refine a_geti dOrders_addToGroup_5 fl5_37 rfl ly_64 (by omega) ?_
  rw [show (m_row (m_row (m_row (m_row (m_row I 64 (va_up f 2 (nI sz))) 65 g) 66 k0) 67 dg) 68 ga) 64 2 = (nI sz) from rfl]
  refine a_iload_n 2 dOrders_addToGroup_8 rfl rfl ?_
  refine a_iastN (a := sz) dOrders_addToGroup_9 ly_65 (by omega) (by omega) (by decide) ?_
  rw [show m_up (m_row (m_row (m_row (m_row (m_row I 64 (va_up f 2 (nI sz))) 65 g) 66 k0) 67 dg) 68 ga) 65 sz (nI l) = (m_row (m_row (m_row (m_row (m_row I 64 (va_up f 2 (nI sz))) 65 (va_up g sz (nI l))) 66 k0) 67 dg) 68 ga) from (by rw [m_up_comm (by decide), m_up_comm (by decide), m_up_comm (by decide), m_up_r])]
  refine a_aload_n 0 dOrders_addToGroup_10 rfl rfl ?_
  refine a_geta (r := 66) dOrders_addToGroup_11 fl5_15 rfl ly_64 (by omega) (rf_64_4 hR) ?_
  refine a_aload_n 0 dOrders_addToGroup_14 rfl rfl ?_
  refine a_geti dOrders_addToGroup_15 fl5_37 rfl ly_64 (by omega) ?_
  rw [show (m_row (m_row (m_row (m_row (m_row I 64 (va_up f 2 (nI sz))) 65 (va_up g sz (nI l))) 66 k0) 67 dg) 68 ga) 64 2 = (nI sz) from rfl]
  refine a_aload_n 1 dOrders_addToGroup_18 rfl rfl ?_
  refine a_geta (r := (o + 3)) dOrders_addToGroup_19 fl5_58 rfl (of_l0 ho) (by omega) (hr 2 (by decide)) ?_
  refine a_iload_n 2 dOrders_addToGroup_22 rfl rfl ?_
  refine a_ialdN (a := l) dOrders_addToGroup_23 (of_l3 ho) (by omega) (by omega) (by decide) ?_
  rw [show (m_row (m_row (m_row (m_row (m_row I 64 (va_up f 2 (nI sz))) 65 (va_up g sz (nI l))) 66 k0) 67 dg) 68 ga) (o + 3) l = I (o + 3) l from (by rw [m_row_ne (oc_ne ho (by decide) (by decide)), m_row_ne (oc_ne ho (by decide) (by decide)), m_row_ne (oc_ne ho (by decide) (by decide)), m_row_ne (oc_ne ho (by decide) (by decide)), m_row_ne (oc_ne ho (by decide) (by decide))])]
  refine a_iastN (a := sz) dOrders_addToGroup_24 ly_66 (by omega) (by omega) (by decide) ?_
  rw [show m_up (m_row (m_row (m_row (m_row (m_row I 64 (va_up f 2 (nI sz))) 65 (va_up g sz (nI l))) 66 k0) 67 dg) 68 ga) 66 sz (I (o + 3) l) = (m_row (m_row (m_row (m_row (m_row I 64 (va_up f 2 (nI sz))) 65 (va_up g sz (nI l))) 66 (va_up k0 sz (I (o + 3) l))) 67 dg) 68 ga) from (by rw [m_up_comm (by decide), m_up_comm (by decide), m_up_r])]
  refine a_iconstN (a := 0) dOrders_addToGroup_25 (by decide) ?_
  refine a_istore (lv' := [(4, .int (nI 0)), (0, .ref 64), (1, .ref o), (2, .int (nI l)), (3, .int sg)]) dOrders_addToGroup_26 (by decide) rfl ?_
  refine l_adD (s0 := dg) hn hR ho hr hon hh hnh hl hnl hW hH (l := l) (sz := sz) (sg := sg) hln hsz ?_ 5 0 (by omega) _ rfl
  refine a_aload_n 1 dOrders_addToGroup_77 rfl rfl ?_
  refine a_dup dOrders_addToGroup_78 rfl ?_
  refine a_geti dOrders_addToGroup_79 fl5_37 rfl ly_64 (by omega) ?_
  rw [show (m_row (m_row (m_row (m_row (m_row I 64 (va_up f 2 (nI sz))) 65 (va_up g sz (nI l))) 66 (va_up k0 sz (I (o + 3) l))) 67 (adD I o l sz sg dg 5)) 68 ga) 64 2 = (nI sz) from rfl]
  refine a_iconstN (a := 1) dOrders_addToGroup_82 (by decide) ?_
  refine a_iaddN (a := sz) (b := 1) dOrders_addToGroup_83 ?_
  refine a_puti dOrders_addToGroup_84 fl5_37 rfl ly_64 (by omega) ?_
  rw [show m_up (m_row (m_row (m_row (m_row (m_row I 64 (va_up f 2 (nI sz))) 65 (va_up g sz (nI l))) 66 (va_up k0 sz (I (o + 3) l))) 67 (adD I o l sz sg dg 5)) 68 ga) 64 2 (nI (sz + 1)) = (m_row (m_row (m_row (m_row (m_row I 64 (va_up f 2 (nI (sz + 1)))) 65 (va_up g sz (nI l))) 66 (va_up k0 sz (I (o + 3) l))) 67 (adD I o l sz sg dg 5)) 68 ga) from (by rw [m_up_comm (by decide), m_up_comm (by decide), m_up_comm (by decide), m_up_comm (by decide), m_up_r, show va_up (va_up f 2 (nI sz)) 2 (nI (sz + 1)) = (va_up f 2 (nI (sz + 1))) from va_uu])]
  exact a_vret dOrders_addToGroup_87 rfl ⟨rfl, rfl, rfl, rfl⟩
def grAS (I : mI) (o h : Nat) (wo sg : Int32) (k : Nat) (s : Nat × (Nat → Int32) × (Nat → Int32) × (Nat → Int32)) : Nat × (Nat → Int32) × (Nat → Int32) × (Nat → Int32) := (if (I (o + 2) k) = (nI h) then (if (nI k) = wo then (s.1, s.2.1, s.2.2.1, s.2.2.2) else ((s.1 + 1), (va_up s.2.1 s.1 (nI k)), (va_up s.2.2.1 s.1 (I (o + 3) k)), (adD I o k s.1 sg s.2.2.2 5))) else (s.1, s.2.1, s.2.2.1, s.2.2.2))
def grA (I : mI) (o h : Nat) (wo sg : Int32) (s0 : Nat × (Nat → Int32) × (Nat → Int32) × (Nat → Int32)) : Nat → Nat × (Nat → Int32) × (Nat → Int32) × (Nat → Int32)
  | 0 => s0
  | k + 1 => grAS I o h wo sg k (grA I o h wo sg s0 k)
theorem l_grA {S : Nat × (Nat → Int32)} {d n : Nat} {I : mI} {J : mJ} {R : mR} (hn : 122 ≤ n) (hR : m_fin R) {o nh nl : Nat} (ho : o ∈ m_offs) (hr : offR R o) (hon : o + 8 < n) (hh : I o 0 = nI nh) (hnh : nh ≤ 6) (hl : I o 1 = nI nl) (hnl : nl ≤ 10) (hW : WFc I o nl) (hH : WFh (I (o + 2)) nl) {f ga : Nat → Int32} {h : Nat} {wo sg : Int32}  {s0 : Nat × (Nat → Int32) × (Nat → Int32) × (Nat → Int32)} {Q : Option Value → mI → mJ → mR → Prop} (hI : ∀ k, k ≤ nl → (grA I o h wo sg s0 k).1 ≤ k) (hx : AW S (d + 3) YOrders_moodOf n n Q 61 [(6, .int (nI nl)), (0, .ref 64), (1, .ref o), (2, .int (nI h)), (3, .int wo), (5, .int sg)] [] (m_row (m_row (m_row (m_row (m_row I 64 (va_up f 2 (nI ((grA I o h wo sg s0 nl).1)))) 65 ((grA I o h wo sg s0 nl).2.1)) 66 ((grA I o h wo sg s0 nl).2.2.1)) 67 ((grA I o h wo sg s0 nl).2.2.2)) 68 ga) J R n) : ∀ m k, k + m = nl → ∀ s : Nat × (Nat → Int32) × (Nat → Int32) × (Nat → Int32), grA I o h wo sg s0 k = s → AW S (d + 3) YOrders_moodOf n n Q 20 [(6, .int (nI k)), (0, .ref 64), (1, .ref o), (2, .int (nI h)), (3, .int wo), (5, .int sg)] [] (m_row (m_row (m_row (m_row (m_row I 64 (va_up f 2 (nI s.1))) 65 s.2.1) 66 s.2.2.1) 67 s.2.2.2) 68 ga) J R n := by
  intro m
  induction m with
  | zero =>
    intro k hk9 s es
    rw [show k = nl by omega] at es ⊢
    subst es
    refine a_iload 0 dOrders_moodOf_20 rfl ?_
    refine a_aload_n 2 dOrders_moodOf_22 rfl rfl ?_
    refine a_geti dOrders_moodOf_23 fl5_41 rfl (of_l0 ho) (by omega) ?_
    rw [show (m_row (m_row (m_row (m_row (m_row I 64 (va_up f 2 (nI ((grA I o h wo sg s0 nl).1)))) 65 ((grA I o h wo sg s0 nl).2.1)) 66 ((grA I o h wo sg s0 nl).2.2.1)) 67 ((grA I o h wo sg s0 nl).2.2.2)) 68 ga) o 1 = (nI nl) from ((show (m_row (m_row (m_row (m_row (m_row I 64 (va_up f 2 (nI ((grA I o h wo sg s0 nl).1)))) 65 ((grA I o h wo sg s0 nl).2.1)) 66 ((grA I o h wo sg s0 nl).2.2.1)) 67 ((grA I o h wo sg s0 nl).2.2.2)) 68 ga) o 1 = I o 1 by rw [m_row_ne (oc_ne0 ho (by decide)), m_row_ne (oc_ne0 ho (by decide)), m_row_ne (oc_ne0 ho (by decide)), m_row_ne (oc_ne0 ho (by decide)), m_row_ne (oc_ne0 ho (by decide))]).trans hl)]
    refine a_icmp_geN (tgt := 61) dOrders_moodOf_26 (by decide) (by omega) (by omega) (fun _ => ?_) (fun c => False.elim (by omega))
    exact hx
  | succ m ih =>
    intro k hk9 s es
    have hsz9 := hI k (by omega)
    rw [es] at hsz9
    refine a_iload 0 dOrders_moodOf_20 rfl ?_
    refine a_aload_n 2 dOrders_moodOf_22 rfl rfl ?_
    refine a_geti dOrders_moodOf_23 fl5_41 rfl (of_l0 ho) (by omega) ?_
    rw [show (m_row (m_row (m_row (m_row (m_row I 64 (va_up f 2 (nI s.1))) 65 s.2.1) 66 s.2.2.1) 67 s.2.2.2) 68 ga) o 1 = (nI nl) from ((show (m_row (m_row (m_row (m_row (m_row I 64 (va_up f 2 (nI s.1))) 65 s.2.1) 66 s.2.2.1) 67 s.2.2.2) 68 ga) o 1 = I o 1 by rw [m_row_ne (oc_ne0 ho (by decide)), m_row_ne (oc_ne0 ho (by decide)), m_row_ne (oc_ne0 ho (by decide)), m_row_ne (oc_ne0 ho (by decide)), m_row_ne (oc_ne0 ho (by decide))]).trans hl)]
    refine a_icmp_geN (tgt := 61) dOrders_moodOf_26 (by decide) (by omega) (by omega) (fun c => False.elim (by omega)) (fun _ => ?_)
    refine a_aload_n 2 dOrders_moodOf_29 rfl rfl ?_
    refine a_geta (r := (o + 2)) dOrders_moodOf_30 fl5_44 rfl (of_l0 ho) (by omega) (hr 1 (by decide)) ?_
    refine a_iload 0 dOrders_moodOf_33 rfl ?_
    refine a_ialdN (a := k) dOrders_moodOf_35 (of_l2 ho) (by omega) (by omega) (by decide) ?_
    rw [show (m_row (m_row (m_row (m_row (m_row I 64 (va_up f 2 (nI s.1))) 65 s.2.1) 66 s.2.2.1) 67 s.2.2.2) 68 ga) (o + 2) k = I (o + 2) k from (by rw [m_row_ne (oc_ne ho (by decide) (by decide)), m_row_ne (oc_ne ho (by decide) (by decide)), m_row_ne (oc_ne ho (by decide) (by decide)), m_row_ne (oc_ne ho (by decide) (by decide)), m_row_ne (oc_ne ho (by decide) (by decide))])]
    refine a_iload_n 3 dOrders_moodOf_36 rfl rfl ?_
    refine a_icmp_ne (tgt := 55) dOrders_moodOf_37 (by decide) (fun c37 => ?_) (fun c37 => ?_)
    · refine a_iincN (lv' := [(6, .int (nI (k + 1))), (0, .ref 64), (1, .ref o), (2, .int (nI h)), (3, .int wo), (5, .int sg)]) (j := 0) dOrders_moodOf_55 rfl (by decide) rfl ?_
      refine a_goto (tgt := 20) dOrders_moodOf_58 (by decide) ?_
      have ez9 : grA I o h wo sg s0 (k + 1) = (s.1, s.2.1, s.2.2.1, s.2.2.2) := by
        show grAS I o h wo sg k (grA I o h wo sg s0 k) = _
        rw [es]
        unfold grAS
        rw [if_neg c37]
      exact ih (k + 1) (by omega) (s.1, s.2.1, s.2.2.1, s.2.2.2) ez9
    · refine a_iload 0 dOrders_moodOf_40 rfl ?_
      refine a_iload_n 4 dOrders_moodOf_42 rfl rfl ?_
      refine a_icmp_eq (tgt := 55) dOrders_moodOf_43 (by decide) (fun c43 => ?_) (fun c43 => ?_)
      · refine a_iincN (lv' := [(6, .int (nI (k + 1))), (0, .ref 64), (1, .ref o), (2, .int (nI h)), (3, .int wo), (5, .int sg)]) (j := 0) dOrders_moodOf_55 rfl (by decide) rfl ?_
        refine a_goto (tgt := 20) dOrders_moodOf_58 (by decide) ?_
        have ez9 : grA I o h wo sg s0 (k + 1) = (s.1, s.2.1, s.2.2.1, s.2.2.2) := by
          show grAS I o h wo sg k (grA I o h wo sg s0 k) = _
          rw [es]
          unfold grAS
          rw [if_pos c37, if_pos c43]
        exact ih (k + 1) (by omega) (s.1, s.2.1, s.2.2.1, s.2.2.2) ez9
      · refine a_aload_n 1 dOrders_moodOf_46 rfl rfl ?_
        refine a_aload_n 2 dOrders_moodOf_47 rfl rfl ?_
        refine a_iload 0 dOrders_moodOf_48 rfl ?_
        refine a_iload 5 dOrders_moodOf_50 rfl ?_
        refine a_callV (Q' := m_res none (m_row (m_row (m_row (m_row (m_row I 64 (va_up f 2 (nI (s.1 + 1)))) 65 (va_up s.2.1 s.1 (nI k))) 66 (va_up s.2.2.1 s.1 (I (o + 3) k))) 67 (adD I o k s.1 sg s.2.2.2 5)) 68 ga) J R) (as := [.ref o, .int (nI k), .int sg]) (st := []) dOrders_moodOf_52 ml5_47 rfl (Nat.le_of_ble_eq_true rfl) ly_64 rfl rfl (by decide) (by omega) (Nat.le_of_ble_eq_true rfl) rfl (Nat.le_refl _) (Nat.le_refl _) (c_addToGroup hn hR ho hr hon hh hnh hl hnl hW hH (by omega) (by omega)) (m_go ?_)
        show AW _ _ _ _ _ _ _ _ [] _ _ _ _
        refine a_iincN (lv' := [(6, .int (nI (k + 1))), (0, .ref 64), (1, .ref o), (2, .int (nI h)), (3, .int wo), (5, .int sg)]) (j := 0) dOrders_moodOf_55 rfl (by decide) rfl ?_
        refine a_goto (tgt := 20) dOrders_moodOf_58 (by decide) ?_
        have ez9 : grA I o h wo sg s0 (k + 1) = ((s.1 + 1), (va_up s.2.1 s.1 (nI k)), (va_up s.2.2.1 s.1 (I (o + 3) k)), (adD I o k s.1 sg s.2.2.2 5)) := by
          show grAS I o h wo sg k (grA I o h wo sg s0 k) = _
          rw [es]
          unfold grAS
          rw [if_pos c37, if_neg c43]
        exact ih (k + 1) (by omega) ((s.1 + 1), (va_up s.2.1 s.1 (nI k)), (va_up s.2.2.1 s.1 (I (o + 3) k)), (adD I o k s.1 sg s.2.2.2 5)) ez9
def fgAS (dg : Nat → Int32) (i t : Nat) (an rs : Int32) (k : Nat) (s : (Nat → Int32)) : (Nat → Int32) := (if an = 0 then (va_up (s) ((5 * t) + k) ((dg ((5 * i) + k)) + rs)) else (if ((dg ((5 * i) + k)) + rs) ≤ ((s) ((5 * t) + k)) then (s) else (va_up (s) ((5 * t) + k) ((dg ((5 * i) + k)) + rs))))
def fgA (dg : Nat → Int32) (i t : Nat) (an rs : Int32) (s0 : (Nat → Int32)) : Nat → (Nat → Int32)
  | 0 => s0
  | k + 1 => fgAS dg i t an rs k (fgA dg i t an rs s0 k)
theorem l_fgA {S : Nat × (Nat → Int32)} {d n : Nat} {I : mI} {J : mJ} {R : mR} {f g k0 dg : Nat → Int32} {sz t : Nat} (hn : 122 ≤ n) (hR : m_fin R) (hsz : sz ≤ 10) (ht : t < 1024) (hk4 : ∀ i, i < sz → k0 i = nI (hmN k0 i) ∧ hmN k0 i < 4) {i : Nat} (hi : i < sz) {an rs : Int32}  {s0 : (Nat → Int32)} {Q : Option Value → mI → mJ → mR → Prop}  (hx : AW S d YOrders_fillGains n n Q 114 [(6, .int (nI 5)), (0, .ref 64), (1, .int (nI t)), (2, .int (nI (5 * t))), (3, .int an), (4, .int (nI i)), (5, .int rs)] [] (m_row (m_row (m_row (m_row (m_row I 64 (va_up f 2 (nI sz))) 65 g) 66 k0) 67 dg) 68 ((fgA dg i t an rs s0 5))) J R n) : ∀ m k, k + m = 5 → ∀ s : (Nat → Int32), fgA dg i t an rs s0 k = s → AW S d YOrders_fillGains n n Q 56 [(6, .int (nI k)), (0, .ref 64), (1, .int (nI t)), (2, .int (nI (5 * t))), (3, .int an), (4, .int (nI i)), (5, .int rs)] [] (m_row (m_row (m_row (m_row (m_row I 64 (va_up f 2 (nI sz))) 65 g) 66 k0) 67 dg) 68 (s)) J R n := by
  intro m
  induction m with
  | zero =>
    intro k hk9 s es
    rw [show k = 5 by omega] at es ⊢
    subst es
    refine a_iload 0 dOrders_fillGains_56 rfl ?_
    refine a_iconstN (a := 5) dOrders_fillGains_58 (by decide) ?_
    refine a_icmp_geN (tgt := 114) dOrders_fillGains_59 (by decide) (by omega) (by omega) (fun _ => ?_) (fun c => False.elim (by omega))
    exact hx
  | succ m ih =>
    intro k hk9 s es
    refine a_iload 0 dOrders_fillGains_56 rfl ?_
    refine a_iconstN (a := 5) dOrders_fillGains_58 (by decide) ?_
    refine a_icmp_geN (tgt := 114) dOrders_fillGains_59 (by decide) (by omega) (by omega) (fun c => False.elim (by omega)) (fun _ => ?_)
    refine a_aload_n 1 dOrders_fillGains_62 rfl rfl ?_
    refine a_geta (r := 67) dOrders_fillGains_63 fl5_18 rfl ly_64 (by omega) (rf_64_5 hR) ?_
    refine a_iconstN (a := 5) dOrders_fillGains_66 (by decide) ?_
    refine a_iload 5 dOrders_fillGains_67 rfl ?_
    refine a_imulN (a := 5) (b := i) dOrders_fillGains_69 ?_
    refine a_iload 0 dOrders_fillGains_70 rfl ?_
    refine a_iaddN (a := (5 * i)) (b := k) dOrders_fillGains_72 ?_
    refine a_ialdN (a := ((5 * i) + k)) dOrders_fillGains_73 ly_67 (by omega) (by omega) (by decide) ?_
    rw [show (m_row (m_row (m_row (m_row (m_row I 64 (va_up f 2 (nI sz))) 65 g) 66 k0) 67 dg) 68 (s)) 67 ((5 * i) + k) = dg ((5 * i) + k) from rfl]
    refine a_iload 6 dOrders_fillGains_74 rfl ?_
    refine a_iadd dOrders_fillGains_76 ?_
    refine a_istore (lv' := [(7, .int ((dg ((5 * i) + k)) + rs)), (6, .int (nI k)), (0, .ref 64), (1, .int (nI t)), (2, .int (nI (5 * t))), (3, .int an), (4, .int (nI i)), (5, .int rs)]) dOrders_fillGains_77 (by decide) rfl ?_
    refine a_iload_n 5 dOrders_fillGains_79 rfl rfl ?_
    refine a_if_eq (tgt := 97) dOrders_fillGains_80 (by decide) (fun c80 => ?_) (fun c80 => ?_)
    · refine a_aload_n 2 dOrders_fillGains_97 rfl rfl ?_
      refine a_geta (r := 68) dOrders_fillGains_98 fl5_21 rfl ly_64 (by omega) (rf_64_6 hR) ?_
      refine a_iload_n 4 dOrders_fillGains_101 rfl rfl ?_
      refine a_iload 1 dOrders_fillGains_102 rfl ?_
      refine a_iaddN (a := (5 * t)) (b := k) dOrders_fillGains_104 ?_
      refine a_iload 0 dOrders_fillGains_105 rfl ?_
      refine a_iastN (a := ((5 * t) + k)) dOrders_fillGains_107 ly_68 (by omega) (by omega) (by decide) ?_
      rw [show m_up (m_row (m_row (m_row (m_row (m_row I 64 (va_up f 2 (nI sz))) 65 g) 66 k0) 67 dg) 68 (s)) 68 ((5 * t) + k) ((dg ((5 * i) + k)) + rs) = (m_row (m_row (m_row (m_row (m_row I 64 (va_up f 2 (nI sz))) 65 g) 66 k0) 67 dg) 68 (va_up (s) ((5 * t) + k) ((dg ((5 * i) + k)) + rs))) from (by rw [m_up_r])]
      refine a_iincN (lv' := [(6, .int (nI (k + 1))), (7, .int ((dg ((5 * i) + k)) + rs)), (0, .ref 64), (1, .int (nI t)), (2, .int (nI (5 * t))), (3, .int an), (4, .int (nI i)), (5, .int rs)]) (j := 1) dOrders_fillGains_108 rfl (by decide) rfl ?_
      refine a_goto (tgt := 56) dOrders_fillGains_111 (by decide) ?_
      have ez9 : fgA dg i t an rs s0 (k + 1) = (va_up (s) ((5 * t) + k) ((dg ((5 * i) + k)) + rs)) := by
        show fgAS dg i t an rs k (fgA dg i t an rs s0 k) = _
        rw [es]
        unfold fgAS
        rw [if_pos c80]
      refine a_locs (lv' := [(6, .int (nI (k + 1))), (0, .ref 64), (1, .int (nI t)), (2, .int (nI (5 * t))), (3, .int an), (4, .int (nI i)), (5, .int rs)]) [0, 2, 3, 4, 5, 6, 7] rfl ?_
      exact ih (k + 1) (by omega) (va_up (s) ((5 * t) + k) ((dg ((5 * i) + k)) + rs)) ez9
    · refine a_iload 0 dOrders_fillGains_83 rfl ?_
      refine a_aload_n 2 dOrders_fillGains_85 rfl rfl ?_
      refine a_geta (r := 68) dOrders_fillGains_86 fl5_21 rfl ly_64 (by omega) (rf_64_6 hR) ?_
      refine a_iload_n 4 dOrders_fillGains_89 rfl rfl ?_
      refine a_iload 1 dOrders_fillGains_90 rfl ?_
      refine a_iaddN (a := (5 * t)) (b := k) dOrders_fillGains_92 ?_
      refine a_ialdN (a := ((5 * t) + k)) dOrders_fillGains_93 ly_68 (by omega) (by omega) (by decide) ?_
      rw [show (m_row (m_row (m_row (m_row (m_row I 64 (va_up f 2 (nI sz))) 65 g) 66 k0) 67 dg) 68 (s)) 68 ((5 * t) + k) = (s) ((5 * t) + k) from rfl]
      refine a_icmp_le (tgt := 108) dOrders_fillGains_94 (by decide) (fun c94 => ?_) (fun c94 => ?_)
      · refine a_iincN (lv' := [(6, .int (nI (k + 1))), (7, .int ((dg ((5 * i) + k)) + rs)), (0, .ref 64), (1, .int (nI t)), (2, .int (nI (5 * t))), (3, .int an), (4, .int (nI i)), (5, .int rs)]) (j := 1) dOrders_fillGains_108 rfl (by decide) rfl ?_
        refine a_goto (tgt := 56) dOrders_fillGains_111 (by decide) ?_
        have ez9 : fgA dg i t an rs s0 (k + 1) = (s) := by
          show fgAS dg i t an rs k (fgA dg i t an rs s0 k) = _
          rw [es]
          unfold fgAS
          rw [if_neg c80, if_pos c94]
        refine a_locs (lv' := [(6, .int (nI (k + 1))), (0, .ref 64), (1, .int (nI t)), (2, .int (nI (5 * t))), (3, .int an), (4, .int (nI i)), (5, .int rs)]) [0, 2, 3, 4, 5, 6, 7] rfl ?_
        exact ih (k + 1) (by omega) (s) ez9
      · refine a_aload_n 2 dOrders_fillGains_97 rfl rfl ?_
        refine a_geta (r := 68) dOrders_fillGains_98 fl5_21 rfl ly_64 (by omega) (rf_64_6 hR) ?_
        refine a_iload_n 4 dOrders_fillGains_101 rfl rfl ?_
        refine a_iload 1 dOrders_fillGains_102 rfl ?_
        refine a_iaddN (a := (5 * t)) (b := k) dOrders_fillGains_104 ?_
        refine a_iload 0 dOrders_fillGains_105 rfl ?_
        refine a_iastN (a := ((5 * t) + k)) dOrders_fillGains_107 ly_68 (by omega) (by omega) (by decide) ?_
        rw [show m_up (m_row (m_row (m_row (m_row (m_row I 64 (va_up f 2 (nI sz))) 65 g) 66 k0) 67 dg) 68 (s)) 68 ((5 * t) + k) ((dg ((5 * i) + k)) + rs) = (m_row (m_row (m_row (m_row (m_row I 64 (va_up f 2 (nI sz))) 65 g) 66 k0) 67 dg) 68 (va_up (s) ((5 * t) + k) ((dg ((5 * i) + k)) + rs))) from (by rw [m_up_r])]
        refine a_iincN (lv' := [(6, .int (nI (k + 1))), (7, .int ((dg ((5 * i) + k)) + rs)), (0, .ref 64), (1, .int (nI t)), (2, .int (nI (5 * t))), (3, .int an), (4, .int (nI i)), (5, .int rs)]) (j := 1) dOrders_fillGains_108 rfl (by decide) rfl ?_
        refine a_goto (tgt := 56) dOrders_fillGains_111 (by decide) ?_
        have ez9 : fgA dg i t an rs s0 (k + 1) = (va_up (s) ((5 * t) + k) ((dg ((5 * i) + k)) + rs)) := by
          show fgAS dg i t an rs k (fgA dg i t an rs s0 k) = _
          rw [es]
          unfold fgAS
          rw [if_neg c80, if_neg c94]
        refine a_locs (lv' := [(6, .int (nI (k + 1))), (0, .ref 64), (1, .int (nI t)), (2, .int (nI (5 * t))), (3, .int an), (4, .int (nI i)), (5, .int rs)]) [0, 2, 3, 4, 5, 6, 7] rfl ?_
        exact ih (k + 1) (by omega) (va_up (s) ((5 * t) + k) ((dg ((5 * i) + k)) + rs)) ez9
def fgNS (k0 dg : Nat → Int32) (t : Nat) (k : Nat) (s : Int32 × (Nat → Int32)) : Int32 × (Nat → Int32) := (if f_has (nI t) (nI k) = 0 then (s.1, (s.2)) else ((nI 1), ((fgA dg k t s.1 (s.2 (5 * rmN t k + hmN k0 k)) (s.2) 5))))
def fgN (k0 dg : Nat → Int32) (t : Nat) (s0 : Int32 × (Nat → Int32)) : Nat → Int32 × (Nat → Int32)
  | 0 => s0
  | k + 1 => fgNS k0 dg t k (fgN k0 dg t s0 k)
theorem l_fgN {S : Nat × (Nat → Int32)} {d n : Nat} {I : mI} {J : mJ} {R : mR} {f g k0 dg : Nat → Int32} {sz t : Nat} (hn : 122 ≤ n) (hR : m_fin R) (hsz : sz ≤ 10) (ht : t < 1024) (hk4 : ∀ i, i < sz → k0 i = nI (hmN k0 i) ∧ hmN k0 i < 4)  {s0 : Int32 × (Nat → Int32)} {Q : Option Value → mI → mJ → mR → Prop}  (hx : AW S d YOrders_fillGains n n Q 122 [(4, .int (nI sz)), (0, .ref 64), (1, .int (nI t)), (2, .int (nI (5 * t))), (3, .int (fgN k0 dg t s0 sz).1)] [] (m_row (m_row (m_row (m_row (m_row I 64 (va_up f 2 (nI sz))) 65 g) 66 k0) 67 dg) 68 (((fgN k0 dg t s0 sz).2))) J R n) : ∀ m k, k + m = sz → ∀ s : Int32 × (Nat → Int32), fgN k0 dg t s0 k = s → AW S d YOrders_fillGains n n Q 9 [(4, .int (nI k)), (0, .ref 64), (1, .int (nI t)), (2, .int (nI (5 * t))), (3, .int s.1)] [] (m_row (m_row (m_row (m_row (m_row I 64 (va_up f 2 (nI sz))) 65 g) 66 k0) 67 dg) 68 (s.2)) J R n := by
  intro m
  induction m with
  | zero =>
    intro k hk9 s es
    rw [show k = sz by omega] at es ⊢
    subst es
    refine a_iload 0 dOrders_fillGains_9 rfl ?_
    refine a_aload_n 1 dOrders_fillGains_11 rfl rfl ?_
    refine a_geti dOrders_fillGains_12 fl5_37 rfl ly_64 (by omega) ?_
    rw [show (m_row (m_row (m_row (m_row (m_row I 64 (va_up f 2 (nI sz))) 65 g) 66 k0) 67 dg) 68 (((fgN k0 dg t s0 sz).2))) 64 2 = (nI sz) from rfl]
    refine a_icmp_geN (tgt := 122) dOrders_fillGains_15 (by decide) (by omega) (by omega) (fun _ => ?_) (fun c => False.elim (by omega))
    exact hx
  | succ m ih =>
    intro k hk9 s es
    have hrm := rm_1024 (t := t) (l := k) (by omega) ht
    have hk5 := (hk4 k (by omega)).2
    refine a_iload 0 dOrders_fillGains_9 rfl ?_
    refine a_aload_n 1 dOrders_fillGains_11 rfl rfl ?_
    refine a_geti dOrders_fillGains_12 fl5_37 rfl ly_64 (by omega) ?_
    rw [show (m_row (m_row (m_row (m_row (m_row I 64 (va_up f 2 (nI sz))) 65 g) 66 k0) 67 dg) 68 (s.2)) 64 2 = (nI sz) from rfl]
    refine a_icmp_geN (tgt := 122) dOrders_fillGains_15 (by decide) (by omega) (by omega) (fun c => False.elim (by omega)) (fun _ => ?_)
    by_cases hs : f_has (nI t) (nI k) = 0
    · refine a_iload_n 2 dOrders_fillGains_18 rfl rfl ?_
      refine a_iload 0 dOrders_fillGains_19 rfl ?_
      refine a_ishr dOrders_fillGains_21 ?_
      refine a_iconstN (a := 1) dOrders_fillGains_22 (by decide) ?_
      refine a_iand dOrders_fillGains_23 ?_
      refine a_iconstN (a := 1) dOrders_fillGains_24 (by decide) ?_
      refine a_icmp_ne (tgt := 116) dOrders_fillGains_25 (by decide) (fun _ => ?_) (fun c => False.elim (has_1 c hs))
      refine a_iincN (lv' := [(4, .int (nI (k + 1))), (0, .ref 64), (1, .int (nI t)), (2, .int (nI (5 * t))), (3, .int s.1)]) (j := 0) dOrders_fillGains_116 rfl (by decide) rfl ?_
      refine a_goto (tgt := 9) dOrders_fillGains_119 (by decide) ?_
      have ez9 : fgN k0 dg t s0 (k + 1) = (s.1, (s.2)) := by
        show fgNS k0 dg t k (fgN k0 dg t s0 k) = _
        rw [es]
        unfold fgNS
        rw [if_pos hs]
      exact ih (k + 1) (by omega) (s.1, (s.2)) ez9
    · refine a_iload_n 2 dOrders_fillGains_18 rfl rfl ?_
      refine a_iload 0 dOrders_fillGains_19 rfl ?_
      refine a_ishr dOrders_fillGains_21 ?_
      refine a_iconstN (a := 1) dOrders_fillGains_22 (by decide) ?_
      refine a_iand dOrders_fillGains_23 ?_
      refine a_iconstN (a := 1) dOrders_fillGains_24 (by decide) ?_
      refine a_icmp_ne (tgt := 116) dOrders_fillGains_25 (by decide) (fun c => False.elim (hs (has_0 c))) (fun _ => ?_)
      refine a_aload_n 1 dOrders_fillGains_28 rfl rfl ?_
      refine a_geta (r := 68) dOrders_fillGains_29 fl5_21 rfl ly_64 (by omega) (rf_64_6 hR) ?_
      refine a_iconstN (a := 5) dOrders_fillGains_32 (by decide) ?_
      refine a_iload_n 2 dOrders_fillGains_33 rfl rfl ?_
      refine a_iconstN (a := 1) dOrders_fillGains_34 (by decide) ?_
      refine a_iload 0 dOrders_fillGains_35 rfl ?_
      refine a_ishl dOrders_fillGains_37 ?_
      refine a_iconst (v := -1) dOrders_fillGains_38 (by decide) ?_
      refine a_ixor dOrders_fillGains_39 ?_
      refine a_iand dOrders_fillGains_40 ?_
      rw [show ((nI t) &&& (((nI 1) <<< ((nI k) &&& 31)) ^^^ (-1))) = (nI (rmN t k)) from (rm_nI t k)]
      refine a_imulN (a := 5) (b := (rmN t k)) dOrders_fillGains_41 ?_
      refine a_aload_n 1 dOrders_fillGains_42 rfl rfl ?_
      refine a_geta (r := 66) dOrders_fillGains_43 fl5_15 rfl ly_64 (by omega) (rf_64_4 hR) ?_
      refine a_iload 0 dOrders_fillGains_46 rfl ?_
      refine a_ialdN (a := k) dOrders_fillGains_48 ly_66 (by omega) (by omega) (by decide) ?_
      rw [show (m_row (m_row (m_row (m_row (m_row I 64 (va_up f 2 (nI sz))) 65 g) 66 k0) 67 dg) 68 (s.2)) 66 k = k0 k from rfl]
      rw [show (k0 k) = (nI (hmN k0 k)) from (hk4 k (by omega)).1]
      refine a_iaddN (a := (5 * (rmN t k))) (b := (hmN k0 k)) dOrders_fillGains_49 ?_
      refine a_ialdN (a := ((5 * (rmN t k)) + (hmN k0 k))) dOrders_fillGains_50 ly_68 (by omega) (by omega) (by decide) ?_
      rw [show (m_row (m_row (m_row (m_row (m_row I 64 (va_up f 2 (nI sz))) 65 g) 66 k0) 67 dg) 68 (s.2)) 68 ((5 * (rmN t k)) + (hmN k0 k)) = (s.2) ((5 * (rmN t k)) + (hmN k0 k)) from rfl]
      refine a_istore (lv' := [(5, .int ((s.2) ((5 * (rmN t k)) + (hmN k0 k)))), (4, .int (nI k)), (0, .ref 64), (1, .int (nI t)), (2, .int (nI (5 * t))), (3, .int s.1)]) dOrders_fillGains_51 (by decide) rfl ?_
      refine a_iconstN (a := 0) dOrders_fillGains_53 (by decide) ?_
      refine a_istore (lv' := [(6, .int (nI 0)), (5, .int ((s.2) ((5 * (rmN t k)) + (hmN k0 k)))), (4, .int (nI k)), (0, .ref 64), (1, .int (nI t)), (2, .int (nI (5 * t))), (3, .int s.1)]) dOrders_fillGains_54 (by decide) rfl ?_
      refine a_locs (lv' := [(6, .int (nI 0)), (0, .ref 64), (1, .int (nI t)), (2, .int (nI (5 * t))), (3, .int s.1), (4, .int (nI k)), (5, .int ((s.2) ((5 * (rmN t k)) + (hmN k0 k))))]) [0, 3, 4, 5, 6, 2, 1] rfl ?_
      refine l_fgA (s0 := (s.2)) hn hR hsz ht hk4 (i := k) (by omega) (an := s.1) (rs := ((s.2) ((5 * (rmN t k)) + (hmN k0 k)))) ?_ 5 0 (by omega) _ rfl
      refine a_iconstN (a := 1) dOrders_fillGains_114 (by decide) ?_
      refine a_istore_n (lv' := [(3, .int (nI 1)), (6, .int (nI 5)), (0, .ref 64), (1, .int (nI t)), (2, .int (nI (5 * t))), (4, .int (nI k)), (5, .int (s.2 (5 * rmN t k + hmN k0 k)))]) dOrders_fillGains_115 rfl (by decide) rfl ?_
      refine a_iincN (lv' := [(4, .int (nI (k + 1))), (3, .int (nI 1)), (6, .int (nI 5)), (0, .ref 64), (1, .int (nI t)), (2, .int (nI (5 * t))), (5, .int (s.2 (5 * rmN t k + hmN k0 k)))]) (j := 5) dOrders_fillGains_116 rfl (by decide) rfl ?_
      refine a_goto (tgt := 9) dOrders_fillGains_119 (by decide) ?_
      have ez9 : fgN k0 dg t s0 (k + 1) = ((nI 1), ((fgA dg k t s.1 (s.2 (5 * rmN t k + hmN k0 k)) (s.2) 5))) := by
        show fgNS k0 dg t k (fgN k0 dg t s0 k) = _
        rw [es]
        unfold fgNS
        rw [if_neg hs]
      refine a_locs (lv' := [(4, .int (nI (k + 1))), (0, .ref 64), (1, .int (nI t)), (2, .int (nI (5 * t))), (3, .int (nI 1))]) [0, 3, 4, 5, 1] rfl ?_
      exact ih (k + 1) (by omega) ((nI 1), ((fgA dg k t s.1 (s.2 (5 * rmN t k + hmN k0 k)) (s.2) 5))) ez9
theorem c_fillGains {S : Nat × (Nat → Int32)} {d n : Nat} {I : mI} {J : mJ} {R : mR} {f g k0 dg ga : Nat → Int32} {sz t : Nat} (hn : 122 ≤ n) (hR : m_fin R) (hsz : sz ≤ 10) (ht : t < 1024) (hk4 : ∀ i, i < sz → k0 i = nI (hmN k0 i) ∧ hmN k0 i < 4)  : RUN S d YOrders_fillGains [.ref 64, .int (nI t)] (m_row (m_row (m_row (m_row (m_row I 64 (va_up f 2 (nI sz))) 65 g) 66 k0) 67 dg) 68 (ga)) J R n none (m_row (m_row (m_row (m_row (m_row I 64 (va_up f 2 (nI sz))) 65 g) 66 k0) 67 dg) 68 ((fgN k0 dg t (nI 0, ga) sz).2)) J R n := by
  show AW S _ YOrders_fillGains n n _ 0 [(0, .ref 64), (1, .int (nI t))] [] (m_row (m_row (m_row (m_row (m_row I 64 (va_up f 2 (nI sz))) 65 g) 66 k0) 67 dg) 68 (ga)) J R n
  refine a_iconstN (a := 5) dOrders_fillGains_0 (by decide) ?_
  refine a_iload_n 1 dOrders_fillGains_1 rfl rfl ?_
  refine a_imulN (a := 5) (b := t) dOrders_fillGains_2 ?_
  refine a_istore_n (lv' := [(2, .int (nI (5 * t))), (0, .ref 64), (1, .int (nI t))]) dOrders_fillGains_3 rfl (by decide) rfl ?_
  refine a_iconstN (a := 0) dOrders_fillGains_4 (by decide) ?_
  refine a_istore_n (lv' := [(3, .int (nI 0)), (2, .int (nI (5 * t))), (0, .ref 64), (1, .int (nI t))]) dOrders_fillGains_5 rfl (by decide) rfl ?_
  refine a_iconstN (a := 0) dOrders_fillGains_6 (by decide) ?_
  refine a_istore (lv' := [(4, .int (nI 0)), (3, .int (nI 0)), (2, .int (nI (5 * t))), (0, .ref 64), (1, .int (nI t))]) dOrders_fillGains_7 (by decide) rfl ?_
  refine a_locs (lv' := [(4, .int (nI 0)), (0, .ref 64), (1, .int (nI t)), (2, .int (nI (5 * t))), (3, .int (nI 0))]) [0, 3, 4, 2, 1] rfl ?_
  refine l_fgN (s0 := (nI 0, ga)) hn hR hsz ht hk4 ?_ sz 0 (by omega) _ rfl
  exact a_vret dOrders_fillGains_122 rfl ⟨rfl, rfl, rfl, rfl⟩
def mgNS (k0 dg : Nat → Int32) (sz : Nat) (k : Nat) (s : (Nat → Int32)) : (Nat → Int32) := ((fgN k0 dg (k + 1) (nI 0, s) sz).2)
def mgN (k0 dg : Nat → Int32) (sz : Nat) (s0 : (Nat → Int32)) : Nat → (Nat → Int32)
  | 0 => s0
  | k + 1 => mgNS k0 dg sz k (mgN k0 dg sz s0 k)
theorem l_mgN {S : Nat × (Nat → Int32)} {d n : Nat} {I : mI} {J : mJ} {R : mR} (hn : 122 ≤ n) (hR : m_fin R) {o nh nl : Nat} (ho : o ∈ m_offs) (hr : offR R o) (hon : o + 8 < n) (hh : I o 0 = nI nh) (hnh : nh ≤ 6) (hl : I o 1 = nI nl) (hnl : nl ≤ 10) (hW : WFc I o nl) (hH : WFh (I (o + 2)) nl) {f g k0 dg : Nat → Int32} {h sz P : Nat} {wo sg : Int32} (hsz : sz ≤ 10) (hP : 2 ^ sz = P) (hP2 : P ≤ 1024) (hP1 : 1 ≤ P) (hk4 : ∀ i, i < sz → k0 i = nI (hmN k0 i) ∧ hmN k0 i < 4)  {s0 : (Nat → Int32)} {Q : Option Value → mI → mJ → mR → Prop}  (hx : AW S (d + 3) YOrders_moodOf n n Q 87 [(6, .int (nI ((P - 1) + 1))), (0, .ref 64), (1, .ref o), (2, .int (nI h)), (3, .int wo), (5, .int sg)] [] (m_row (m_row (m_row (m_row (m_row I 64 (va_up f 2 (nI sz))) 65 g) 66 k0) 67 dg) 68 ((mgN k0 dg sz s0 (P - 1)))) J R n) : ∀ m k, k + m = (P - 1) → ∀ s : (Nat → Int32), mgN k0 dg sz s0 k = s → AW S (d + 3) YOrders_moodOf n n Q 64 [(6, .int (nI (k + 1))), (0, .ref 64), (1, .ref o), (2, .int (nI h)), (3, .int wo), (5, .int sg)] [] (m_row (m_row (m_row (m_row (m_row I 64 (va_up f 2 (nI sz))) 65 g) 66 k0) 67 dg) 68 (s)) J R n := by
  intro m
  induction m with
  | zero =>
    intro k hk9 s es
    rw [show k = (P - 1) by omega] at es ⊢
    subst es
    refine a_iload 0 dOrders_moodOf_64 rfl ?_
    refine a_iconstN (a := 1) dOrders_moodOf_66 (by decide) ?_
    refine a_aload_n 1 dOrders_moodOf_67 rfl rfl ?_
    refine a_geti dOrders_moodOf_68 fl5_37 rfl ly_64 (by omega) ?_
    rw [show (m_row (m_row (m_row (m_row (m_row I 64 (va_up f 2 (nI sz))) 65 g) 66 k0) 67 dg) 68 ((mgN k0 dg sz s0 (P - 1)))) 64 2 = (nI sz) from rfl]
    refine a_ishl dOrders_moodOf_71 ?_
    rw [show ((nI 1) <<< ((nI sz) &&& 31)) = (nI P) from (shl_P hP hsz)]
    refine a_icmp_geN (tgt := 87) dOrders_moodOf_72 (by decide) (by omega) (by omega) (fun _ => ?_) (fun c => False.elim (by omega))
    exact hx
  | succ m ih =>
    intro k hk9 s es
    refine a_iload 0 dOrders_moodOf_64 rfl ?_
    refine a_iconstN (a := 1) dOrders_moodOf_66 (by decide) ?_
    refine a_aload_n 1 dOrders_moodOf_67 rfl rfl ?_
    refine a_geti dOrders_moodOf_68 fl5_37 rfl ly_64 (by omega) ?_
    rw [show (m_row (m_row (m_row (m_row (m_row I 64 (va_up f 2 (nI sz))) 65 g) 66 k0) 67 dg) 68 (s)) 64 2 = (nI sz) from rfl]
    refine a_ishl dOrders_moodOf_71 ?_
    rw [show ((nI 1) <<< ((nI sz) &&& 31)) = (nI P) from (shl_P hP hsz)]
    refine a_icmp_geN (tgt := 87) dOrders_moodOf_72 (by decide) (by omega) (by omega) (fun c => False.elim (by omega)) (fun _ => ?_)
    refine a_aload_n 1 dOrders_moodOf_75 rfl rfl ?_
    refine a_iload 0 dOrders_moodOf_76 rfl ?_
    refine a_callV (Q' := m_res none (m_row (m_row (m_row (m_row (m_row I 64 (va_up f 2 (nI sz))) 65 g) 66 k0) 67 dg) 68 ((fgN k0 dg (k + 1) (nI 0, s) sz).2)) J R) (as := [.int (nI (k + 1))]) (st := []) dOrders_moodOf_78 ml5_51 rfl (Nat.le_of_ble_eq_true rfl) ly_64 rfl rfl (by decide) (by omega) (Nat.le_of_ble_eq_true rfl) rfl (Nat.le_refl _) (Nat.le_refl _) (c_fillGains hn hR hsz (by omega) hk4) (m_go ?_)
    show AW _ _ _ _ _ _ _ _ [] _ _ _ _
    refine a_iincN (lv' := [(6, .int (nI ((k + 1) + 1))), (0, .ref 64), (1, .ref o), (2, .int (nI h)), (3, .int wo), (5, .int sg)]) (j := 0) dOrders_moodOf_81 rfl (by decide) rfl ?_
    refine a_goto (tgt := 64) dOrders_moodOf_84 (by decide) ?_
    have ez9 : mgN k0 dg sz s0 (k + 1) = ((fgN k0 dg (k + 1) (nI 0, s) sz).2) := by
      show mgNS k0 dg sz k (mgN k0 dg sz s0 k) = _
      rw [es]
      unfold mgNS
      rfl
    exact ih (k + 1) (by omega) ((fgN k0 dg (k + 1) (nI 0, s) sz).2) ez9
abbrev gr4 : Type := Nat × (Nat → Int32) × (Nat → Int32) × (Nat → Int32)
theorem grA_le {I : mI} {o h : Nat} {wo sg : Int32} {g k0 dg : Nat → Int32} : ∀ k, (grA I o h wo sg (0, g, k0, dg) k).1 ≤ k := by
  intro k
  induction k with
  | zero => exact Nat.le_refl _
  | succ k ih =>
    have e : grA I o h wo sg (0, g, k0, dg) (k + 1) = grAS I o h wo sg k (grA I o h wo sg (0, g, k0, dg) k) := rfl
    rw [e]
    generalize grA I o h wo sg (0, g, k0, dg) k = s at ih ⊢
    unfold grAS
    repeat' split
    all_goals (first | exact Nat.le_succ_of_le ih | exact Nat.succ_le_succ ih)
theorem grA_k4 {I : mI} {o h nl : Nat} (hW : WFc I o nl) {wo sg : Int32} {g k0 dg : Nat → Int32} : ∀ k, k ≤ nl → ∀ i, i < (grA I o h wo sg (0, g, k0, dg) k).1 → (grA I o h wo sg (0, g, k0, dg) k).2.2.1 i = nI (hmN (grA I o h wo sg (0, g, k0, dg) k).2.2.1 i) ∧ hmN (grA I o h wo sg (0, g, k0, dg) k).2.2.1 i < 4 := by
  intro k
  induction k with
  | zero => intro _ i hi; exact absurd hi (Nat.not_lt_zero _)
  | succ k ih =>
    intro hk
    have ih2 := ih (by omega)
    have e : grA I o h wo sg (0, g, k0, dg) (k + 1) = grAS I o h wo sg k (grA I o h wo sg (0, g, k0, dg) k) := rfl
    rw [e]
    generalize grA I o h wo sg (0, g, k0, dg) k = s at ih2 ⊢
    unfold grAS
    repeat' split
    all_goals (first | exact ih2 | skip)
    intro i hi
    have hi2 : i < s.1 + 1 := hi
    show va_up s.2.2.1 s.1 (I (o + 3) k) i = nI (hmN (va_up s.2.2.1 s.1 (I (o + 3) k)) i) ∧ hmN (va_up s.2.2.1 s.1 (I (o + 3) k)) i < 4
    by_cases hie : i = s.1
    · have e2 : va_up s.2.2.1 s.1 (I (o + 3) k) i = I (o + 3) k := by unfold va_up; rw [if_pos hie]
      obtain ⟨q, hq, eq⟩ := hW k (by omega)
      unfold hmN
      rw [e2, eq, nI_clamp (by omega)]
      exact ⟨rfl, hq⟩
    · have e2 : va_up s.2.2.1 s.1 (I (o + 3) k) i = s.2.2.1 i := by unfold va_up; rw [if_neg hie]
      have h3 := ih2 i (by omega)
      unfold hmN at h3 ⊢
      rw [e2]
      exact h3
/-- the group that moodOf makes, and its gains -/
abbrev grT (I : mI) (o h nl : Nat) (wo sg : Int32) (g k0 dg : Nat → Int32) : gr4 := grA I o h wo sg (0, g, k0, dg) nl
abbrev mgT (q : gr4) (ga : Nat → Int32) : Nat → Int32 := mgN q.2.2.1 q.2.2.2 q.1 ga (2 ^ q.1 - 1)
/-- behind moodOf -/
abbrev oMT (I : mI) (f : Nat → Int32) (q : gr4) (ga : Nat → Int32) : mI := oM I (va_up f 2 (nI q.1)) q.2.1 q.2.2.1 q.2.2.2 ga
theorem b_moodOf {S : Nat × (Nat → Int32)} {d n : Nat} {I : mI} {J : mJ} {R : mR} (hn : 122 ≤ n) (hR : m_fin R) {o nh nl : Nat} (ho : o ∈ m_offs) (hr : offR R o) (hon : o + 8 < n) (hh : I o 0 = nI nh) (hnh : nh ≤ 6) (hl : I o 1 = nI nl) (hnl : nl ≤ 10) (hW : WFc I o nl) (hH : WFh (I (o + 2)) nl) {f g k0 dg ga : Nat → Int32} {h : Nat} (hh6 : h < nh) {wo sg u : Int32}  {Q : Option Value → mI → mJ → mR → Prop} (hQ : Q (some (.int (I (o + 1) h + sg * mgT (grT I o h nl wo sg g k0 dg) ga (5 * (2 ^ (grT I o h nl wo sg g k0 dg).1 - 1) + 4)))) (oMT I f (grT I o h nl wo sg g k0 dg) (mgT (grT I o h nl wo sg g k0 dg) ga)) J R) : AW S (d + 3) YOrders_moodOf n n Q 12 [(5, .int sg), (0, .ref 64), (1, .ref o), (2, .int (nI h)), (3, .int wo), (4, .int u)] [] (m_row (m_row (m_row (m_row (m_row I 64 f) 65 g) 66 k0) 67 dg) 68 ga) J R n := by
  refine a_aload_n 1 dOrders_moodOf_12 rfl rfl ?_
  refine a_iconstN (a := 0) dOrders_moodOf_13 (by decide) ?_
  refine a_puti dOrders_moodOf_14 fl5_37 rfl ly_64 (by omega) ?_
  rw [show m_up (m_row (m_row (m_row (m_row (m_row I 64 f) 65 g) 66 k0) 67 dg) 68 ga) 64 2 (nI 0) = (m_row (m_row (m_row (m_row (m_row I 64 (va_up f 2 (nI 0))) 65 g) 66 k0) 67 dg) 68 ga) from (by rw [m_up_comm (by decide), m_up_comm (by decide), m_up_comm (by decide), m_up_comm (by decide), m_up_r])]
  refine a_iconstN (a := 0) dOrders_moodOf_17 (by decide) ?_
  refine a_istore (lv' := [(6, .int (nI 0)), (5, .int sg), (0, .ref 64), (1, .ref o), (2, .int (nI h)), (3, .int wo), (4, .int u)]) dOrders_moodOf_18 (by decide) rfl ?_
  refine a_locs (lv' := [(6, .int (nI 0)), (0, .ref 64), (1, .ref o), (2, .int (nI h)), (3, .int wo), (5, .int sg)]) [0, 2, 3, 4, 5, 1] rfl ?_
  refine l_grA (s0 := (0, g, k0, dg)) hn hR ho hr hon hh hnh hl hnl hW hH (h := h) (wo := wo) (sg := sg) (fun k _ => grA_le k) ?_ nl 0 (by omega) _ rfl
  have hq9 := grA_le (I := I) (o := o) (h := h) (wo := wo) (sg := sg) (g := g) (k0 := k0) (dg := dg) nl
  have hk4 := grA_k4 (o := o) (h := h) hW (wo := wo) (sg := sg) (g := g) (k0 := k0) (dg := dg) nl (Nat.le_refl _)
  change Q (some (.int (I (o + 1) h + sg * mgT (grA I o h wo sg (0, g, k0, dg) nl) ga (5 * (2 ^ (grA I o h wo sg (0, g, k0, dg) nl).1 - 1) + 4)))) (oMT I f (grA I o h wo sg (0, g, k0, dg) nl) (mgT (grA I o h wo sg (0, g, k0, dg) nl) ga)) J R at hQ
  generalize (grA I o h wo sg (0, g, k0, dg) nl) = q9 at hq9 hk4 hQ ⊢
  obtain ⟨P, hP⟩ : ∃ P, 2 ^ q9.1 = P := ⟨_, rfl⟩
  have hP2 := P_le hP (show q9.1 ≤ 10 by omega)
  have hP1 : 1 ≤ P := by rw [← hP]; exact Nat.pow_pos (by decide)
  refine a_iconstN (a := 1) dOrders_moodOf_61 (by decide) ?_
  refine a_istore (lv' := [(6, .int (nI 1)), (0, .ref 64), (1, .ref o), (2, .int (nI h)), (3, .int wo), (5, .int sg)]) dOrders_moodOf_62 (by decide) rfl ?_
  refine l_mgN (s0 := ga) hn hR ho hr hon hh hnh hl hnl hW hH (k0 := q9.2.2.1) (dg := q9.2.2.2) (g := q9.2.1) (sz := q9.1) (h := h) (wo := wo) (sg := sg) (by omega) hP hP2 hP1 hk4 ?_ (P - 1) 0 (by omega) _ rfl
  refine a_aload_n 2 dOrders_moodOf_87 rfl rfl ?_
  refine a_geta (r := (o + 1)) dOrders_moodOf_88 fl5_55 rfl (of_l0 ho) (by omega) (hr 0 (by decide)) ?_
  refine a_iload_n 3 dOrders_moodOf_91 rfl rfl ?_
  refine a_ialdN (a := h) dOrders_moodOf_92 (of_l1 ho) (by omega) (by omega) (by decide) ?_
  rw [show (m_row (m_row (m_row (m_row (m_row I 64 (va_up f 2 (nI q9.1))) 65 q9.2.1) 66 q9.2.2.1) 67 q9.2.2.2) 68 ((mgN q9.2.2.1 q9.2.2.2 q9.1 ga (P - 1)))) (o + 1) h = I (o + 1) h from (by rw [m_row_ne (oc_ne ho (by decide) (by decide)), m_row_ne (oc_ne ho (by decide) (by decide)), m_row_ne (oc_ne ho (by decide) (by decide)), m_row_ne (oc_ne ho (by decide) (by decide)), m_row_ne (oc_ne ho (by decide) (by decide))])]
  refine a_iload 5 dOrders_moodOf_93 rfl ?_
  refine a_aload_n 1 dOrders_moodOf_95 rfl rfl ?_
  refine a_geta (r := 68) dOrders_moodOf_96 fl5_21 rfl ly_64 (by omega) (rf_64_6 hR) ?_
  refine a_iconstN (a := 5) dOrders_moodOf_99 (by decide) ?_
  refine a_iconstN (a := 1) dOrders_moodOf_100 (by decide) ?_
  refine a_aload_n 1 dOrders_moodOf_101 rfl rfl ?_
  refine a_geti dOrders_moodOf_102 fl5_37 rfl ly_64 (by omega) ?_
  rw [show (m_row (m_row (m_row (m_row (m_row I 64 (va_up f 2 (nI q9.1))) 65 q9.2.1) 66 q9.2.2.1) 67 q9.2.2.2) 68 ((mgN q9.2.2.1 q9.2.2.2 q9.1 ga (P - 1)))) 64 2 = (nI q9.1) from rfl]
  refine a_ishl dOrders_moodOf_105 ?_
  rw [show ((nI 1) <<< ((nI q9.1) &&& 31)) = (nI P) from (shl_P hP (show q9.1 ≤ 10 by omega))]
  refine a_iconstN (a := 1) dOrders_moodOf_106 (by decide) ?_
  refine a_isubN dOrders_moodOf_107 hP1 ?_
  refine a_imulN (a := 5) (b := (P - 1)) dOrders_moodOf_108 ?_
  refine a_iconstN (a := 4) dOrders_moodOf_109 (by decide) ?_
  refine a_iaddN (a := (5 * (P - 1))) (b := 4) dOrders_moodOf_110 ?_
  refine a_ialdN (a := ((5 * (P - 1)) + 4)) dOrders_moodOf_111 ly_68 (by omega) (by omega) (by decide) ?_
  rw [show (m_row (m_row (m_row (m_row (m_row I 64 (va_up f 2 (nI q9.1))) 65 q9.2.1) 66 q9.2.2.1) 67 q9.2.2.2) 68 ((mgN q9.2.2.1 q9.2.2.2 q9.1 ga (P - 1)))) 68 ((5 * (P - 1)) + 4) = ((mgN q9.2.2.1 q9.2.2.2 q9.1 ga (P - 1))) ((5 * (P - 1)) + 4) from rfl]
  refine a_imul dOrders_moodOf_112 ?_
  refine a_iadd dOrders_moodOf_113 ?_
  exact a_iret dOrders_moodOf_114 rfl (by unfold mgT oMT at hQ; rw [hP] at hQ; exact hQ)
