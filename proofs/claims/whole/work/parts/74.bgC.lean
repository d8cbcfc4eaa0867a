def frS1 (g : Nat → Option (List Nat)) : Nat → Nat → Option (List Nat)
  | 0, _ => none
  | m + 1, k => match g k with
    | some a => some a
    | none => frS1 g m (k + 1)
def upN (f : Nat → Nat) (k x : Nat) : Nat → Nat := fun j => if j = k then x else f j
/-- the first row of days of the letters from one on, as they come into use -/
def srF (days ms fo : Nat) (hm w : Nat → Nat) : Nat → Nat → Nat → (Nat → Nat) → (Nat → Nat) → Option (List Nat)
  | 0, _, _, _, _ => some []
  | f + 1, l, used, G, L => frS1 (fun day => if G day < ms ∧ L (6 * day + hm l) + w l ≤ fo then (srF days ms fo hm w f (l + 1) (max used (day + 1)) (upN G day (G day + 1)) (upN L (6 * day + hm l) (L (6 * day + hm l) + w l))).map (day :: ·) else none) (min (used + 1) days) 0
def rwN (N : Nat) (g : Nat → Int32) (G : Nat → Nat) : Prop := ∀ k, k < N → g k = nI (G k)
theorem rwN_up {N : Nat} {g : Nat → Int32} {G : Nat → Nat} {k x : Nat} (h : rwN N g G) : rwN N (va_up g k (nI x)) (upN G k x) := fun j hj => by
  unfold va_up upN
  split
  · rfl
  · exact h j hj
theorem va_res {f : Nat → Int32} {k a w : Nat} {x : Int32} (h : f k = nI a) : va_up (va_up f k x) k (nI (a + w - w)) = f := by
  rw [va_uu, Nat.add_sub_cancel, ← h, va_ui]
def WFf (I : mI) (o nl : Nat) : Prop := ∀ l, l < nl → I (o + 4) l = nI (hmN (I (o + 4)) l) ∧ hmN (I (o + 4)) l ≤ 9
abbrev bM (I : mI) (D g ls : Nat → Int32) : mI := m_row (m_row (m_row I 82 D) 83 g) 84 ls
theorem ln_get {as : List Nat} {day f : Nat} (h : as.length = f) : (day :: as).length = f + 1 := by rw [List.length_cons, h]
theorem d_get {as : List Nat} {day l f : Nat} {D' : Nat → Int32} (h1 : D' l = nI day) (h2 : ∀ i, i < f → D' (l + 1 + i) = nI (as.getD i 0)) : ∀ i, i < f + 1 → D' (l + i) = nI ((day :: as).getD i 0) := by
  intro i hi
  cases i with
  | zero => exact h1
  | succ i =>
    have := h2 i (by omega)
    rw [show l + 1 + i = l + (i + 1) by omega] at this
    rw [this, List.getD_cons_succ]
theorem l_place {S : Nat × (Nat → Int32)} {d n : Nat} {I : mI} {J : mJ} {R : mR} (hn : 122 ≤ n) (hR : m_fin R) {o nh nl : Nat} (ho : o ∈ m_offs) (hr : offR R o) (hon : o + 8 < n) (hRo : R 81 3 = some o) (hh : I o 0 = nI nh) (hnh : nh ≤ 6) (hl : I o 1 = nI nl) (hnl : nl ≤ 10) (hW : WFc I o nl) (hH : WFh (I (o + 2)) nl) (hF : WFf I o nl) {fo ms days : Nat} (hfo : I 81 4 = nI fo) (hfo9 : fo ≤ 99) (hms : I 81 5 = nI ms) (hms9 : ms ≤ 10) (hdy : days ≤ 10) {f l used : Nat} {D g ls : Nat → Int32} {G L : Nat → Nat} (hln : l < nl) (hU : used ≤ 10) (hG : rwN 10 g G) (hG9 : ∀ j, G j ≤ 10) (hL : rwN 60 ls L) (hL9 : ∀ j, L j ≤ 99) (hpl : ∀ (u2 : Nat) (D2 g2 ls2 : Nat → Int32) (G2 L2 : Nat → Nat), u2 ≤ 10 → rwN 10 g2 G2 → (∀ j, G2 j ≤ 10) → rwN 60 ls2 L2 → (∀ j, L2 j ≤ 99) → ∀ (Q2 : Option Value → mI → mJ → mR → Prop), (∀ as D' g' ls', srF days ms fo (hmN (I (o + 2))) (hmN (I (o + 4))) f (l + 1) u2 G2 L2 = some as → as.length = f → (∀ j, j < (l + 1) → D' j = D2 j) → (∀ i, i < f → D' ((l + 1) + i) = nI (as.getD i 0)) → Q2 (some (.int 1)) (bM I D' g' ls') J R) → (∀ D', srF days ms fo (hmN (I (o + 2))) (hmN (I (o + 4))) f (l + 1) u2 G2 L2 = none → (∀ j, j < (l + 1) → D' j = D2 j) → Q2 (some (.int 0)) (bM I D' g2 ls2) J R) → AW S d YBags_place n n Q2 0 [(0, .ref 81), (1, .int (nI (l + 1))), (2, .int (nI u2)), (3, .int (nI days))] [] (bM I D2 g2 ls2) J R n) {Q : Option Value → mI → mJ → mR → Prop} : ∀ m k, k + m = min (used + 1) days → ∀ D1 : Nat → Int32, (∀ j, j < l → D1 j = D j) → (∀ as D' g' ls', frS1 (fun day => if G day < ms ∧ L (6 * day + (hmN (I (o + 2)) l)) + (hmN (I (o + 4)) l) ≤ fo then (srF days ms fo (hmN (I (o + 2))) (hmN (I (o + 4))) f (l + 1) (max used (day + 1)) (upN G day (G day + 1)) (upN L (6 * day + (hmN (I (o + 2)) l)) (L (6 * day + (hmN (I (o + 2)) l)) + (hmN (I (o + 4)) l)))).map (day :: ·) else none) m k = some as → as.length = f + 1 → (∀ j, j < l → D' j = D j) → (∀ i, i < f + 1 → D' (l + i) = nI (as.getD i 0)) → Q (some (.int 1)) (bM I D' g' ls') J R) → (∀ D', frS1 (fun day => if G day < ms ∧ L (6 * day + (hmN (I (o + 2)) l)) + (hmN (I (o + 4)) l) ≤ fo then (srF days ms fo (hmN (I (o + 2))) (hmN (I (o + 4))) f (l + 1) (max used (day + 1)) (upN G day (G day + 1)) (upN L (6 * day + (hmN (I (o + 2)) l)) (L (6 * day + (hmN (I (o + 2)) l)) + (hmN (I (o + 4)) l)))).map (day :: ·) else none) m k = none → (∀ j, j < l → D' j = D j) → Q (some (.int 0)) (bM I D' g ls) J R) → AW S (d + 1) YBags_place n n Q 38 [(6, .int (nI k)), (0, .ref 81), (1, .int (nI l)), (2, .int (nI used)), (3, .int (nI days)), (4, .int (nI (hmN (I (o + 2)) l))), (5, .int (nI (hmN (I (o + 4)) l)))] [] (bM I D1 g ls) J R n := by
  have hw9 := (hF l hln).2
  have hm9 := (hH.hm hln).2
  intro m
  induction m with
  | zero =>
    intro k hk9 D1 hD1 hT hN
    show AW _ _ _ _ _ _ _ _ _ (m_row (m_row (m_row I 82 D1) 83 g) 84 ls) _ _ _
    by_cases hb : used < k
    · refine a_iload 0 dBags_place_38 rfl ?_
      refine a_iload_n 3 dBags_place_40 rfl rfl ?_
      refine a_icmp_gtN (tgt := 172) dBags_place_41 (by decide) (by omega) (by omega) (fun _ => ?_) (fun c => False.elim (by omega))
      refine a_iconstN (a := 0) dBags_place_172 (by decide) ?_
      exact a_zret dBags_place_173 rfl (by rfl) (hN D1 rfl hD1)
    · refine a_iload 0 dBags_place_38 rfl ?_
      refine a_iload_n 3 dBags_place_40 rfl rfl ?_
      refine a_icmp_gtN (tgt := 172) dBags_place_41 (by decide) (by omega) (by omega) (fun c => False.elim (by omega)) (fun _ => ?_)
      refine a_iload 0 dBags_place_44 rfl ?_
      refine a_iload_n 4 dBags_place_46 rfl rfl ?_
      refine a_icmp_geN (tgt := 172) dBags_place_47 (by decide) (by omega) (by omega) (fun _ => ?_) (fun c => False.elim (by omega))
      refine a_iconstN (a := 0) dBags_place_172 (by decide) ?_
      exact a_zret dBags_place_173 rfl (by rfl) (hN D1 rfl hD1)
  | succ m ih =>
    intro k hk9 D1 hD1 hT hN
    have hGk := hG k (by omega)
    have hLk := hL (6 * k + (hmN (I (o + 2)) l)) (by omega)
    have hG9k := hG9 k
    have hL9k := hL9 (6 * k + (hmN (I (o + 2)) l))
    unfold frS1 at hT hN
    show AW _ _ _ _ _ _ _ _ _ (m_row (m_row (m_row I 82 D1) 83 g) 84 ls) _ _ _
    refine a_iload 0 dBags_place_38 rfl ?_
    refine a_iload_n 3 dBags_place_40 rfl rfl ?_
    refine a_icmp_gtN (tgt := 172) dBags_place_41 (by decide) (by omega) (by omega) (fun c => False.elim (by omega)) (fun _ => ?_)
    refine a_iload 0 dBags_place_44 rfl ?_
    refine a_iload_n 4 dBags_place_46 rfl rfl ?_
    refine a_icmp_geN (tgt := 172) dBags_place_47 (by decide) (by omega) (by omega) (fun c => False.elim (by omega)) (fun _ => ?_)
    refine a_bipushN (a := 6) dBags_place_50 (by decide) ?_
    refine a_iload 0 dBags_place_52 rfl ?_
    refine a_imulN (a := 6) (b := k) dBags_place_54 ?_
    refine a_iload 5 dBags_place_55 rfl ?_
    refine a_iaddN (a := (6 * k)) (b := (hmN (I (o + 2)) l)) dBags_place_57 ?_
    refine a_istore (lv' := [(7, .int (nI ((6 * k) + (hmN (I (o + 2)) l)))), (6, .int (nI k)), (0, .ref 81), (1, .int (nI l)), (2, .int (nI used)), (3, .int (nI days)), (4, .int (nI (hmN (I (o + 2)) l))), (5, .int (nI (hmN (I (o + 4)) l)))]) dBags_place_58 (by decide) rfl ?_
    refine a_aload_n 2 dBags_place_60 rfl rfl ?_
    refine a_geta (r := 83) dBags_place_61 fl0_15 rfl ly_81 (by omega) (rf_81_1 hR) ?_
    refine a_iload 1 dBags_place_64 rfl ?_
    refine a_ialdN (a := k) dBags_place_66 ly_83 (by omega) (by omega) (by decide) ?_
    rw [show (m_row (m_row (m_row I 82 D1) 83 g) 84 ls) 83 k = g k from rfl]
    rw [show (g k) = (nI (G k)) from hGk]
    refine a_aload_n 2 dBags_place_67 rfl rfl ?_
    refine a_geti dBags_place_68 fl0_29 rfl ly_81 (by omega) ?_
    rw [show (m_row (m_row (m_row I 82 D1) 83 g) 84 ls) 81 5 = (nI ms) from hms]
    refine a_icmp_geN (tgt := 166) dBags_place_71 (by decide) (by omega) (by omega) (fun c71 => ?_) (fun c71 => ?_)
    · refine a_iincN (lv' := [(6, .int (nI (k + 1))), (7, .int (nI ((6 * k) + (hmN (I (o + 2)) l)))), (0, .ref 81), (1, .int (nI l)), (2, .int (nI used)), (3, .int (nI days)), (4, .int (nI (hmN (I (o + 2)) l))), (5, .int (nI (hmN (I (o + 4)) l)))]) (j := 1) dBags_place_166 rfl (by decide) rfl ?_
      refine a_goto (tgt := 38) dBags_place_169 (by decide) ?_
      refine a_locs (lv' := [(6, .int (nI (k + 1))), (0, .ref 81), (1, .int (nI l)), (2, .int (nI used)), (3, .int (nI days)), (4, .int (nI (hmN (I (o + 2)) l))), (5, .int (nI (hmN (I (o + 4)) l)))]) [0, 2, 3, 4, 5, 6, 7] rfl ?_
      exact ih (k + 1) (by omega) D1 hD1 (by rw [if_neg (show ¬ (G k < ms ∧ L (6 * k + (hmN (I (o + 2)) l)) + (hmN (I (o + 4)) l) ≤ fo) by omega)] at hT; exact hT) (by rw [if_neg (show ¬ (G k < ms ∧ L (6 * k + (hmN (I (o + 2)) l)) + (hmN (I (o + 4)) l) ≤ fo) by omega)] at hN; exact hN)
    · refine a_aload_n 2 dBags_place_74 rfl rfl ?_
      refine a_geta (r := 84) dBags_place_75 fl0_18 rfl ly_81 (by omega) (rf_81_2 hR) ?_
      refine a_iload 0 dBags_place_78 rfl ?_
      refine a_ialdN (a := ((6 * k) + (hmN (I (o + 2)) l))) dBags_place_80 ly_84 (by omega) (by omega) (by decide) ?_
      rw [show (m_row (m_row (m_row I 82 D1) 83 g) 84 ls) 84 ((6 * k) + (hmN (I (o + 2)) l)) = ls ((6 * k) + (hmN (I (o + 2)) l)) from rfl]
      rw [show (ls ((6 * k) + (hmN (I (o + 2)) l))) = (nI (L (6 * k + (hmN (I (o + 2)) l)))) from hLk]
      refine a_iload 7 dBags_place_81 rfl ?_
      refine a_iaddN (a := (L (6 * k + (hmN (I (o + 2)) l)))) (b := (hmN (I (o + 4)) l)) dBags_place_83 ?_
      refine a_aload_n 2 dBags_place_84 rfl rfl ?_
      refine a_geti dBags_place_85 fl0_25 rfl ly_81 (by omega) ?_
      rw [show (m_row (m_row (m_row I 82 D1) 83 g) 84 ls) 81 4 = (nI fo) from hfo]
      refine a_icmp_gtN (tgt := 166) dBags_place_88 (by decide) (by omega) (by omega) (fun c88 => ?_) (fun c88 => ?_)
      · refine a_iincN (lv' := [(6, .int (nI (k + 1))), (7, .int (nI ((6 * k) + (hmN (I (o + 2)) l)))), (0, .ref 81), (1, .int (nI l)), (2, .int (nI used)), (3, .int (nI days)), (4, .int (nI (hmN (I (o + 2)) l))), (5, .int (nI (hmN (I (o + 4)) l)))]) (j := 1) dBags_place_166 rfl (by decide) rfl ?_
        refine a_goto (tgt := 38) dBags_place_169 (by decide) ?_
        refine a_locs (lv' := [(6, .int (nI (k + 1))), (0, .ref 81), (1, .int (nI l)), (2, .int (nI used)), (3, .int (nI days)), (4, .int (nI (hmN (I (o + 2)) l))), (5, .int (nI (hmN (I (o + 4)) l)))]) [0, 2, 3, 4, 5, 6, 7] rfl ?_
        exact ih (k + 1) (by omega) D1 hD1 (by rw [if_neg (show ¬ (G k < ms ∧ L (6 * k + (hmN (I (o + 2)) l)) + (hmN (I (o + 4)) l) ≤ fo) by omega)] at hT; exact hT) (by rw [if_neg (show ¬ (G k < ms ∧ L (6 * k + (hmN (I (o + 2)) l)) + (hmN (I (o + 4)) l) ≤ fo) by omega)] at hN; exact hN)
      · refine a_aload_n 2 dBags_place_91 rfl rfl ?_
        refine a_geta (r := 83) dBags_place_92 fl0_15 rfl ly_81 (by omega) (rf_81_1 hR) ?_
        refine a_iload 1 dBags_place_95 rfl ?_
        refine a_dup2 dBags_place_97 rfl rfl ?_
        refine a_ialdN (a := k) dBags_place_98 ly_83 (by omega) (by omega) (by decide) ?_
        rw [show (m_row (m_row (m_row I 82 D1) 83 g) 84 ls) 83 k = g k from rfl]
        rw [show (g k) = (nI (G k)) from hGk]
        refine a_iconstN (a := 1) dBags_place_99 (by decide) ?_
        refine a_iaddN (a := (G k)) (b := 1) dBags_place_100 ?_
        refine a_iastN (a := k) dBags_place_101 ly_83 (by omega) (by omega) (by decide) ?_
        rw [show m_up (m_row (m_row (m_row I 82 D1) 83 g) 84 ls) 83 k (nI ((G k) + 1)) = (m_row (m_row (m_row I 82 D1) 83 (va_up g k (nI ((G k) + 1)))) 84 ls) from (by rw [m_up_comm (by decide), m_up_r])]
        refine a_aload_n 2 dBags_place_102 rfl rfl ?_
        refine a_geta (r := 84) dBags_place_103 fl0_18 rfl ly_81 (by omega) (rf_81_2 hR) ?_
        refine a_iload 0 dBags_place_106 rfl ?_
        refine a_dup2 dBags_place_108 rfl rfl ?_
        refine a_ialdN (a := ((6 * k) + (hmN (I (o + 2)) l))) dBags_place_109 ly_84 (by omega) (by omega) (by decide) ?_
        rw [show (m_row (m_row (m_row I 82 D1) 83 (va_up g k (nI ((G k) + 1)))) 84 ls) 84 ((6 * k) + (hmN (I (o + 2)) l)) = ls ((6 * k) + (hmN (I (o + 2)) l)) from rfl]
        rw [show (ls ((6 * k) + (hmN (I (o + 2)) l))) = (nI (L (6 * k + (hmN (I (o + 2)) l)))) from hLk]
        refine a_iload 7 dBags_place_110 rfl ?_
        refine a_iaddN (a := (L (6 * k + (hmN (I (o + 2)) l)))) (b := (hmN (I (o + 4)) l)) dBags_place_112 ?_
        refine a_iastN (a := ((6 * k) + (hmN (I (o + 2)) l))) dBags_place_113 ly_84 (by omega) (by omega) (by decide) ?_
        rw [show m_up (m_row (m_row (m_row I 82 D1) 83 (va_up g k (nI ((G k) + 1)))) 84 ls) 84 ((6 * k) + (hmN (I (o + 2)) l)) (nI ((L (6 * k + (hmN (I (o + 2)) l))) + (hmN (I (o + 4)) l))) = (m_row (m_row (m_row I 82 D1) 83 (va_up g k (nI ((G k) + 1)))) 84 (va_up ls ((6 * k) + (hmN (I (o + 2)) l)) (nI ((L (6 * k + (hmN (I (o + 2)) l))) + (hmN (I (o + 4)) l))))) from (by rw [m_up_r])]
        refine a_aload_n 2 dBags_place_114 rfl rfl ?_
        refine a_geta (r := 82) dBags_place_115 fl0_9 rfl ly_81 (by omega) (rf_81_0 hR) ?_
        refine a_iload_n 3 dBags_place_118 rfl rfl ?_
        refine a_iload 1 dBags_place_119 rfl ?_
        refine a_iastN (a := l) dBags_place_121 ly_82 (by omega) (by omega) (by decide) ?_
        rw [show m_up (m_row (m_row (m_row I 82 D1) 83 (va_up g k (nI ((G k) + 1)))) 84 (va_up ls ((6 * k) + (hmN (I (o + 2)) l)) (nI ((L (6 * k + (hmN (I (o + 2)) l))) + (hmN (I (o + 4)) l))))) 82 l (nI k) = (m_row (m_row (m_row I 82 (va_up D1 l (nI k))) 83 (va_up g k (nI ((G k) + 1)))) 84 (va_up ls ((6 * k) + (hmN (I (o + 2)) l)) (nI ((L (6 * k + (hmN (I (o + 2)) l))) + (hmN (I (o + 4)) l))))) from (by rw [m_up_comm (by decide), m_up_comm (by decide), m_up_r])]
        refine a_aload_n 2 dBags_place_122 rfl rfl ?_
        refine a_iload_n 3 dBags_place_123 rfl rfl ?_
        refine a_iconstN (a := 1) dBags_place_124 (by decide) ?_
        refine a_iaddN (a := l) (b := 1) dBags_place_125 ?_
        refine a_iload_n 4 dBags_place_126 rfl rfl ?_
        refine a_iload 1 dBags_place_127 rfl ?_
        refine a_iconstN (a := 1) dBags_place_129 (by decide) ?_
        refine a_iaddN (a := k) (b := 1) dBags_place_130 ?_
        refine a_max dBags_place_131 mm0_53 (Nat.le_of_ble_eq_true rfl) (Nat.le_refl _) ?_
        rw [show (if (nI used) < (nI (k + 1)) then (nI (k + 1)) else (nI used)) = (nI (max used (k + 1))) from (max_nI (by omega) (by omega))]
        refine a_iload_n 5 dBags_place_134 rfl rfl ?_
        refine a_callV (Q' := fun v I2 J2 R2 => J2 = J ∧ R2 = R ∧ ((∃ as D' g' ls', v = some (.int 1) ∧ srF days ms fo (hmN (I (o + 2))) (hmN (I (o + 4))) f (l + 1) (max used (k + 1)) (upN G k (G k + 1)) (upN L (6 * k + (hmN (I (o + 2)) l)) (L (6 * k + (hmN (I (o + 2)) l)) + (hmN (I (o + 4)) l))) = some as ∧ as.length = f ∧ (∀ j, j < l + 1 → D' j = va_up D1 l (nI k) j) ∧ (∀ i, i < f → D' (l + 1 + i) = nI (as.getD i 0)) ∧ I2 = bM I D' g' ls') ∨ (∃ D', v = some (.int 0) ∧ srF days ms fo (hmN (I (o + 2))) (hmN (I (o + 4))) f (l + 1) (max used (k + 1)) (upN G k (G k + 1)) (upN L (6 * k + (hmN (I (o + 2)) l)) (L (6 * k + (hmN (I (o + 2)) l)) + (hmN (I (o + 4)) l))) = none ∧ (∀ j, j < l + 1 → D' j = va_up D1 l (nI k) j) ∧ I2 = bM I D' (va_up g k (nI (G k + 1))) (va_up ls (6 * k + (hmN (I (o + 2)) l)) (nI (L (6 * k + (hmN (I (o + 2)) l)) + (hmN (I (o + 4)) l))))))) (as := [.int (nI (l + 1)), .int (nI (max used (k + 1))), .int (nI days)]) (st := []) dBags_place_135 ml0_46 rfl (Nat.le_of_ble_eq_true rfl) ly_81 rfl rfl (by decide) (by omega) (Nat.le_of_ble_eq_true rfl) rfl (Nat.le_refl _) (Nat.le_refl _) (hpl (max used (k + 1)) (va_up D1 l (nI k)) (va_up g k (nI (G k + 1))) (va_up ls (6 * k + (hmN (I (o + 2)) l)) (nI (L (6 * k + (hmN (I (o + 2)) l)) + (hmN (I (o + 4)) l)))) (upN G k (G k + 1)) (upN L (6 * k + (hmN (I (o + 2)) l)) (L (6 * k + (hmN (I (o + 2)) l)) + (hmN (I (o + 4)) l))) (by omega) (rwN_up hG) (fun j => by unfold upN; split <;> first | omega | exact hG9 j) (rwN_up hL) (fun j => by unfold upN; split <;> first | omega | exact hL9 j) _ (fun as D' g' ls' h1 h2 h3 h4 => ⟨rfl, rfl, Or.inl ⟨as, D', g', ls', rfl, h1, h2, h3, h4, rfl⟩⟩) (fun D' h1 h2 => ⟨rfl, rfl, Or.inr ⟨D', rfl, h1, h2, rfl⟩⟩)) ?_
        intro v9 I9 J9 R9 ⟨e1, e2, e3⟩
        rw [e1, e2]
        rcases e3 with ⟨as, D', g', ls', e4, e5, e6, e7, e8, e9⟩ | ⟨D', e4, e5, e6, e7⟩
        · rw [e4, e9]
          show AW _ _ _ _ _ _ _ _ [.int 1] (m_row (m_row (m_row I 82 (D')) 83 (g')) 84 (ls')) _ _ _
          refine a_if_eq (tgt := 143) dBags_place_138 (by decide) (fun c => False.elim (absurd c (by decide))) (fun _ => ?_)
          refine a_iconstN (a := 1) dBags_place_141 (by decide) ?_
          exact a_zret dBags_place_142 rfl (by rfl) (hT (k :: as) D' g' ls' (by rw [if_pos (show G k < ms ∧ L (6 * k + (hmN (I (o + 2)) l)) + (hmN (I (o + 4)) l) ≤ fo by omega), e5]; rfl) (ln_get e6) (fun j hj => by rw [e7 j (by omega)]; unfold va_up; rw [if_neg (by omega)]; exact hD1 j hj) (d_get (by rw [e7 l (by omega)]; exact va_a9) e8))
        · rw [e4, e7]
          show AW _ _ _ _ _ _ _ _ [.int 0] (m_row (m_row (m_row I 82 (D')) 83 (va_up g k (nI (G k + 1)))) 84 (va_up ls (6 * k + (hmN (I (o + 2)) l)) (nI (L (6 * k + (hmN (I (o + 2)) l)) + (hmN (I (o + 4)) l))))) _ _ _
          refine a_if_eq (tgt := 143) dBags_place_138 (by decide) (fun _ => ?_) (fun c => False.elim (c rfl))
          refine a_aload_n 2 dBags_place_143 rfl rfl ?_
          refine a_geta (r := 83) dBags_place_144 fl0_15 rfl ly_81 (by omega) (rf_81_1 hR) ?_
          refine a_iload 1 dBags_place_147 rfl ?_
          refine a_dup2 dBags_place_149 rfl rfl ?_
          refine a_ialdN (a := k) dBags_place_150 ly_83 (by omega) (by omega) (by decide) ?_
          rw [show (m_row (m_row (m_row I 82 (D')) 83 (va_up g k (nI (G k + 1)))) 84 (va_up ls (6 * k + (hmN (I (o + 2)) l)) (nI (L (6 * k + (hmN (I (o + 2)) l)) + (hmN (I (o + 4)) l))))) 83 k = (nI (G k + 1)) from va_a9]
          refine a_iconstN (a := 1) dBags_place_151 (by decide) ?_
          refine a_isubN dBags_place_152 (by omega) ?_
          refine a_iastN (a := k) dBags_place_153 ly_83 (by omega) (by omega) (by decide) ?_
          rw [show m_up (m_row (m_row (m_row I 82 (D')) 83 (va_up g k (nI (G k + 1)))) 84 (va_up ls (6 * k + (hmN (I (o + 2)) l)) (nI (L (6 * k + (hmN (I (o + 2)) l)) + (hmN (I (o + 4)) l))))) 83 k (nI ((G k + 1) - 1)) = (m_row (m_row (m_row I 82 (D')) 83 (va_up (va_up g k (nI (G k + 1))) k (nI ((G k + 1) - 1)))) 84 (va_up ls (6 * k + (hmN (I (o + 2)) l)) (nI (L (6 * k + (hmN (I (o + 2)) l)) + (hmN (I (o + 4)) l))))) from (by rw [m_up_comm (by decide), m_up_r])]
          refine a_aload_n 2 dBags_place_154 rfl rfl ?_
          refine a_geta (r := 84) dBags_place_155 fl0_18 rfl ly_81 (by omega) (rf_81_2 hR) ?_
          refine a_iload 0 dBags_place_158 rfl ?_
          refine a_dup2 dBags_place_160 rfl rfl ?_
          refine a_ialdN (a := ((6 * k) + (hmN (I (o + 2)) l))) dBags_place_161 ly_84 (by omega) (by omega) (by decide) ?_
          rw [show (m_row (m_row (m_row I 82 (D')) 83 (va_up (va_up g k (nI (G k + 1))) k (nI ((G k + 1) - 1)))) 84 (va_up ls (6 * k + (hmN (I (o + 2)) l)) (nI (L (6 * k + (hmN (I (o + 2)) l)) + (hmN (I (o + 4)) l))))) 84 ((6 * k) + (hmN (I (o + 2)) l)) = (nI (L (6 * k + (hmN (I (o + 2)) l)) + (hmN (I (o + 4)) l))) from va_a9]
          refine a_iload 7 dBags_place_162 rfl ?_
          refine a_isubN dBags_place_164 (by omega) ?_
          refine a_iastN (a := ((6 * k) + (hmN (I (o + 2)) l))) dBags_place_165 ly_84 (by omega) (by omega) (by decide) ?_
          rw [show m_up (m_row (m_row (m_row I 82 (D')) 83 (va_up (va_up g k (nI (G k + 1))) k (nI ((G k + 1) - 1)))) 84 (va_up ls (6 * k + (hmN (I (o + 2)) l)) (nI (L (6 * k + (hmN (I (o + 2)) l)) + (hmN (I (o + 4)) l))))) 84 ((6 * k) + (hmN (I (o + 2)) l)) (nI ((L (6 * k + (hmN (I (o + 2)) l)) + (hmN (I (o + 4)) l)) - (hmN (I (o + 4)) l))) = (m_row (m_row (m_row I 82 (D')) 83 (va_up (va_up g k (nI (G k + 1))) k (nI ((G k + 1) - 1)))) 84 (va_up (va_up ls (6 * k + (hmN (I (o + 2)) l)) (nI (L (6 * k + (hmN (I (o + 2)) l)) + (hmN (I (o + 4)) l)))) ((6 * k) + (hmN (I (o + 2)) l)) (nI ((L (6 * k + (hmN (I (o + 2)) l)) + (hmN (I (o + 4)) l)) - (hmN (I (o + 4)) l))))) from (by rw [m_up_r])]
          refine a_mem (show (m_row (m_row (m_row I 82 (D')) 83 (va_up (va_up g k (nI (G k + 1))) k (nI ((G k + 1) - 1)))) 84 (va_up (va_up ls (6 * k + (hmN (I (o + 2)) l)) (nI (L (6 * k + (hmN (I (o + 2)) l)) + (hmN (I (o + 4)) l)))) ((6 * k) + (hmN (I (o + 2)) l)) (nI ((L (6 * k + (hmN (I (o + 2)) l)) + (hmN (I (o + 4)) l)) - (hmN (I (o + 4)) l))))) = bM I D' g ls from by rw [va_res (w := 1) hGk, va_res hLk]) ?_
          refine a_iincN (lv' := [(6, .int (nI (k + 1))), (7, .int (nI ((6 * k) + (hmN (I (o + 2)) l)))), (0, .ref 81), (1, .int (nI l)), (2, .int (nI used)), (3, .int (nI days)), (4, .int (nI (hmN (I (o + 2)) l))), (5, .int (nI (hmN (I (o + 4)) l)))]) (j := 1) dBags_place_166 rfl (by decide) rfl ?_
          refine a_goto (tgt := 38) dBags_place_169 (by decide) ?_
          refine a_locs (lv' := [(6, .int (nI (k + 1))), (0, .ref 81), (1, .int (nI l)), (2, .int (nI used)), (3, .int (nI days)), (4, .int (nI (hmN (I (o + 2)) l))), (5, .int (nI (hmN (I (o + 4)) l)))]) [0, 2, 3, 4, 5, 6, 7] rfl ?_
          exact ih (k + 1) (by omega) D' (fun j hj => by rw [e6 j (by omega)]; unfold va_up; rw [if_neg (by omega)]; exact hD1 j hj) (by rw [if_pos (show G k < ms ∧ L (6 * k + (hmN (I (o + 2)) l)) + (hmN (I (o + 4)) l) ≤ fo by omega), e5] at hT; exact hT) (by rw [if_pos (show G k < ms ∧ L (6 * k + (hmN (I (o + 2)) l)) + (hmN (I (o + 4)) l) ≤ fo by omega), e5] at hN; exact hN)
theorem c_place {S : Nat × (Nat → Int32)} {d n : Nat} {I : mI} {J : mJ} {R : mR} (hn : 122 ≤ n) (hR : m_fin R) {o nh nl : Nat} (ho : o ∈ m_offs) (hr : offR R o) (hon : o + 8 < n) (hRo : R 81 3 = some o) (hh : I o 0 = nI nh) (hnh : nh ≤ 6) (hl : I o 1 = nI nl) (hnl : nl ≤ 10) (hW : WFc I o nl) (hH : WFh (I (o + 2)) nl) (hF : WFf I o nl) {fo ms days : Nat} (hfo : I 81 4 = nI fo) (hfo9 : fo ≤ 99) (hms : I 81 5 = nI ms) (hms9 : ms ≤ 10) (hdy : days ≤ 10) : ∀ f l used (D g ls : Nat → Int32) (G L : Nat → Nat), l + f = nl → used ≤ 10 → rwN 10 g G → (∀ j, G j ≤ 10) → rwN 60 ls L → (∀ j, L j ≤ 99) → ∀ (Q : Option Value → mI → mJ → mR → Prop), (∀ as D' g' ls', srF days ms fo (hmN (I (o + 2))) (hmN (I (o + 4))) f l used G L = some as → as.length = f → (∀ j, j < l → D' j = D j) → (∀ i, i < f → D' (l + i) = nI (as.getD i 0)) → Q (some (.int 1)) (bM I D' g' ls') J R) → (∀ D', srF days ms fo (hmN (I (o + 2))) (hmN (I (o + 4))) f l used G L = none → (∀ j, j < l → D' j = D j) → Q (some (.int 0)) (bM I D' g ls) J R) → AW S (d + f + 1) YBags_place n n Q 0 [(0, .ref 81), (1, .int (nI l)), (2, .int (nI used)), (3, .int (nI days))] [] (bM I D g ls) J R n := by
  intro f
  induction f with
  | zero =>
    intro l used D g ls G L hf hU hG hG9 hL hL9 Q hT hN
    rw [show l = nl by omega] at hT ⊢
    show AW _ _ _ _ _ _ _ _ _ (m_row (m_row (m_row I 82 D) 83 g) 84 ls) _ _ _
    refine a_iload_n 1 dBags_place_0 rfl rfl ?_
    refine a_aload_n 0 dBags_place_1 rfl rfl ?_
    refine a_geta (r := o) dBags_place_2 fl0_21 rfl ly_81 (by omega) hRo ?_
    refine a_geti dBags_place_5 fl0_32 rfl (of_l0 ho) (by omega) ?_
    rw [show (m_row (m_row (m_row I 82 D) 83 g) 84 ls) o 1 = (nI nl) from ((show (m_row (m_row (m_row I 82 D) 83 g) 84 ls) o 1 = I o 1 by rw [m_row_ne (oc_ne0 ho (by decide)), m_row_ne (oc_ne0 ho (by decide)), m_row_ne (oc_ne0 ho (by decide))]).trans hl)]
    refine a_icmp_ltN (tgt := 13) dBags_place_8 (by decide) (by omega) (by omega) (fun c => False.elim (by omega)) (fun _ => ?_)
    refine a_iconstN (a := 1) dBags_place_11 (by decide) ?_
    exact a_zret dBags_place_12 rfl (by rfl) (hT [] D g ls rfl rfl (fun _ _ => rfl) (fun i hi => absurd hi (Nat.not_lt_zero _)))
  | succ f ih =>
    intro l used D g ls G L hf hU hG hG9 hL hL9 Q hT hN
    have hln : l < nl := by omega
    rw [show d + (f + 1) + 1 = (d + f + 1) + 1 by omega]
    show AW _ _ _ _ _ _ _ _ _ (m_row (m_row (m_row I 82 D) 83 g) 84 ls) _ _ _
    refine a_iload_n 1 dBags_place_0 rfl rfl ?_
    refine a_aload_n 0 dBags_place_1 rfl rfl ?_
    refine a_geta (r := o) dBags_place_2 fl0_21 rfl ly_81 (by omega) hRo ?_
    refine a_geti dBags_place_5 fl0_32 rfl (of_l0 ho) (by omega) ?_
    rw [show (m_row (m_row (m_row I 82 D) 83 g) 84 ls) o 1 = (nI nl) from ((show (m_row (m_row (m_row I 82 D) 83 g) 84 ls) o 1 = I o 1 by rw [m_row_ne (oc_ne0 ho (by decide)), m_row_ne (oc_ne0 ho (by decide)), m_row_ne (oc_ne0 ho (by decide))]).trans hl)]
    refine a_icmp_ltN (tgt := 13) dBags_place_8 (by decide) (by omega) (by omega) (fun _ => ?_) (fun c => False.elim (by omega))
    refine a_aload_n 0 dBags_place_13 rfl rfl ?_
    refine a_geta (r := o) dBags_place_14 fl0_21 rfl ly_81 (by omega) hRo ?_
    refine a_geta (r := (o + 2)) dBags_place_17 fl0_50 rfl (of_l0 ho) (by omega) (hr 1 (by decide)) ?_
    refine a_iload_n 1 dBags_place_20 rfl rfl ?_
    refine a_ialdN (a := l) dBags_place_21 (of_l2 ho) (by omega) (by omega) (by decide) ?_
    rw [show (m_row (m_row (m_row I 82 D) 83 g) 84 ls) (o + 2) l = I (o + 2) l from (by rw [m_row_ne (oc_ne ho (by decide) (by decide)), m_row_ne (oc_ne ho (by decide) (by decide)), m_row_ne (oc_ne ho (by decide) (by decide))])]
    rw [show (I (o + 2) l) = (nI (hmN (I (o + 2)) l)) from (hH.hm hln).1]
    refine a_istore (lv' := [(4, .int (nI (hmN (I (o + 2)) l))), (0, .ref 81), (1, .int (nI l)), (2, .int (nI used)), (3, .int (nI days))]) dBags_place_22 (by decide) rfl ?_
    refine a_aload_n 1 dBags_place_24 rfl rfl ?_
    refine a_geta (r := o) dBags_place_25 fl0_21 rfl ly_81 (by omega) hRo ?_
    refine a_geta (r := (o + 4)) dBags_place_28 fl0_37 rfl (of_l0 ho) (by omega) (hr 3 (by decide)) ?_
    refine a_iload_n 2 dBags_place_31 rfl rfl ?_
    refine a_ialdN (a := l) dBags_place_32 (of_l4 ho) (by omega) (by omega) (by decide) ?_
    rw [show (m_row (m_row (m_row I 82 D) 83 g) 84 ls) (o + 4) l = I (o + 4) l from (by rw [m_row_ne (oc_ne ho (by decide) (by decide)), m_row_ne (oc_ne ho (by decide) (by decide)), m_row_ne (oc_ne ho (by decide) (by decide))])]
    rw [show (I (o + 4) l) = (nI (hmN (I (o + 4)) l)) from (hF l hln).1]
    refine a_istore (lv' := [(5, .int (nI (hmN (I (o + 4)) l))), (4, .int (nI (hmN (I (o + 2)) l))), (0, .ref 81), (1, .int (nI l)), (2, .int (nI used)), (3, .int (nI days))]) dBags_place_33 (by decide) rfl ?_
    refine a_iconstN (a := 0) dBags_place_35 (by decide) ?_
    refine a_istore (lv' := [(6, .int (nI 0)), (5, .int (nI (hmN (I (o + 4)) l))), (4, .int (nI (hmN (I (o + 2)) l))), (0, .ref 81), (1, .int (nI l)), (2, .int (nI used)), (3, .int (nI days))]) dBags_place_36 (by decide) rfl ?_
    refine a_locs (lv' := [(6, .int (nI 0)), (0, .ref 81), (1, .int (nI l)), (2, .int (nI used)), (3, .int (nI days)), (4, .int (nI (hmN (I (o + 2)) l))), (5, .int (nI (hmN (I (o + 4)) l)))]) [0, 3, 4, 5, 6, 2, 1] rfl ?_
    exact l_place (S := S) (d := d + f + 1) hn hR ho hr hon hRo hh hnh hl hnl hW hH hF hfo hfo9 hms hms9 hdy hln hU hG hG9 hL hL9 (fun u2 D2 g2 ls2 G2 L2 a1 a2 a3 a4 a5 Q2 h1 h2 => ih (l + 1) u2 D2 g2 ls2 G2 L2 (by omega) a1 a2 a3 a4 a5 Q2 h1 h2) (min (used + 1) days) 0 (by omega) D (fun _ _ => rfl) hT hN
