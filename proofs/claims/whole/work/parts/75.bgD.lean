theorem rwN_fill {N : Nat} {f : Nat → Int32} : rwN N (m_fill (fun _ => nI 0) f N) (fun _ => 0) := fun k hk => by
  unfold m_fill
  rw [if_pos hk]
theorem l_days {S : Nat × (Nat → Int32)} {d n : Nat} {I : mI} {J : mJ} {R : mR} (hn : 122 ≤ n) (hR : m_fin R) {o nh nl : Nat} (ho : o ∈ m_offs) (hr : offR R o) (hon : o + 8 < n) (hRo : R 81 3 = some o) (hh : I o 0 = nI nh) (hnh : nh ≤ 6) (hl : I o 1 = nI nl) (hnl : nl ≤ 10) (hW : WFc I o nl) (hH : WFh (I (o + 2)) nl) (hF : WFf I o nl) {fo ms : Nat} (hfo : I 81 4 = nI fo) (hfo9 : fo ≤ 99) (hms : I 81 5 = nI ms) (hms9 : ms ≤ 10) {Q : Option Value → mI → mJ → mR → Prop} (hS : ∀ k as D' g' ls', k ≤ nl → srF k ms fo (hmN (I (o + 2))) (hmN (I (o + 4))) nl 0 0 (fun _ => 0) (fun _ => 0) = some as → (∀ j, j < k → srF j ms fo (hmN (I (o + 2))) (hmN (I (o + 4))) nl 0 0 (fun _ => 0) (fun _ => 0) = none) → as.length = nl → (∀ i, i < nl → D' i = nI (as.getD i 0)) → Q (some (.int (nI k))) (bM I D' g' ls') J R) (hN : (∀ j, j ≤ nl → srF j ms fo (hmN (I (o + 2))) (hmN (I (o + 4))) nl 0 0 (fun _ => 0) (fun _ => 0) = none) → ∀ D' g' ls', Q (some (.int (-1))) (bM I D' g' ls') J R) : ∀ m k, k + m = nl + 1 → (∀ j, j < k → srF j ms fo (hmN (I (o + 2))) (hmN (I (o + 4))) nl 0 0 (fun _ => 0) (fun _ => 0) = none) → ∀ D g ls : Nat → Int32, AW S (d + 12) YBags_fewest n n Q 52 [(4, .int (nI k)), (0, .ref 81), (1, .ref o)] [] (bM I D g ls) J R n := by
  intro m
  induction m with
  | zero =>
    intro k hk9 hp D g ls
    show AW _ _ _ _ _ _ _ _ _ (m_row (m_row (m_row I 82 D) 83 g) 84 ls) _ _ _
    refine a_iload 0 dBags_fewest_52 rfl ?_
    refine a_aload_n 2 dBags_fewest_54 rfl rfl ?_
    refine a_geti dBags_fewest_55 fl0_32 rfl (of_l0 ho) (by omega) ?_
    rw [show (m_row (m_row (m_row I 82 D) 83 g) 84 ls) o 1 = (nI nl) from ((show (m_row (m_row (m_row I 82 D) 83 g) 84 ls) o 1 = I o 1 by rw [m_row_ne (oc_ne0 ho (by decide)), m_row_ne (oc_ne0 ho (by decide)), m_row_ne (oc_ne0 ho (by decide))]).trans hl)]
    refine a_icmp_gtN (tgt := 97) dBags_fewest_58 (by decide) (by omega) (by omega) (fun _ => ?_) (fun c => False.elim (by omega))
    refine a_iconst (v := -1) dBags_fewest_97 (by decide) ?_
    exact a_iret dBags_fewest_98 rfl (hN (fun j hj => hp j (by omega)) _ _ _)
  | succ m ih =>
    intro k hk9 hp D g ls
    show AW _ _ _ _ _ _ _ _ _ (m_row (m_row (m_row I 82 D) 83 g) 84 ls) _ _ _
    refine a_iload 0 dBags_fewest_52 rfl ?_
    refine a_aload_n 2 dBags_fewest_54 rfl rfl ?_
    refine a_geti dBags_fewest_55 fl0_32 rfl (of_l0 ho) (by omega) ?_
    rw [show (m_row (m_row (m_row I 82 D) 83 g) 84 ls) o 1 = (nI nl) from ((show (m_row (m_row (m_row I 82 D) 83 g) 84 ls) o 1 = I o 1 by rw [m_row_ne (oc_ne0 ho (by decide)), m_row_ne (oc_ne0 ho (by decide)), m_row_ne (oc_ne0 ho (by decide))]).trans hl)]
    refine a_icmp_gtN (tgt := 97) dBags_fewest_58 (by decide) (by omega) (by omega) (fun c => False.elim (by omega)) (fun _ => ?_)
    refine a_aload_n 1 dBags_fewest_61 rfl rfl ?_
    refine a_geta (r := 83) dBags_fewest_62 fl0_15 rfl ly_81 (by omega) (rf_81_1 hR) ?_
    refine a_iconstN (a := 0) dBags_fewest_65 (by decide) ?_
    refine a_callS (Q' := m_res none (m_row (m_row (m_row I 82 D) 83 (m_fill (fun _ => (nI 0)) g 10)) 84 ls) J R) (as := [.ref 83, .int (nI 0)]) (st := []) dBags_fewest_66 ml0_40 rfl (Nat.le_of_ble_eq_true rfl) (Nat.le_of_ble_eq_true rfl) rfl (Nat.le_refl _) (Nat.le_refl _) (by have h := c_Arrays_fill (S := S) (d := d + 11) (n := n) (J := J) (R := R) (I := (m_row (m_row (m_row I 82 D) 83 g) 84 ls)) (a := 83) (N := 10) (x := (nI 0)) ly_83 (by omega) (by decide); rw [m_row_c (a := 84) (b := 83) (by decide), m_row_row] at h; exact h) (m_go ?_)
    show AW _ _ _ _ _ _ _ _ [] _ _ _ _
    refine a_aload_n 1 dBags_fewest_69 rfl rfl ?_
    refine a_geta (r := 84) dBags_fewest_70 fl0_18 rfl ly_81 (by omega) (rf_81_2 hR) ?_
    refine a_iconstN (a := 0) dBags_fewest_73 (by decide) ?_
    refine a_callS (Q' := m_res none (m_row (m_row (m_row I 82 D) 83 (m_fill (fun _ => (nI 0)) g 10)) 84 (m_fill (fun _ => (nI 0)) ls 60)) J R) (as := [.ref 84, .int (nI 0)]) (st := []) dBags_fewest_74 ml0_40 rfl (Nat.le_of_ble_eq_true rfl) (Nat.le_of_ble_eq_true rfl) rfl (Nat.le_refl _) (Nat.le_refl _) (by have h := c_Arrays_fill (S := S) (d := d + 11) (n := n) (J := J) (R := R) (I := (m_row (m_row (m_row I 82 D) 83 (m_fill (fun _ => (nI 0)) g 10)) 84 ls)) (a := 84) (N := 60) (x := (nI 0)) ly_84 (by omega) (by decide); rw [m_row_row] at h; exact h) (m_go ?_)
    show AW _ _ _ _ _ _ _ _ [] _ _ _ _
    refine a_aload_n 1 dBags_fewest_77 rfl rfl ?_
    refine a_iconstN (a := 0) dBags_fewest_78 (by decide) ?_
    refine a_iconstN (a := 0) dBags_fewest_79 (by decide) ?_
    refine a_iload 0 dBags_fewest_80 rfl ?_
    refine a_callV (Q' := fun v I2 J2 R2 => J2 = J ∧ R2 = R ∧ ((∃ as D' g' ls', v = some (.int 1) ∧ srF k ms fo (hmN (I (o + 2))) (hmN (I (o + 4))) nl 0 0 (fun _ => 0) (fun _ => 0) = some as ∧ as.length = nl ∧ (∀ i, i < nl → D' (0 + i) = nI (as.getD i 0)) ∧ I2 = bM I D' g' ls') ∨ (∃ D', v = some (.int 0) ∧ srF k ms fo (hmN (I (o + 2))) (hmN (I (o + 4))) nl 0 0 (fun _ => 0) (fun _ => 0) = none ∧ I2 = bM I D' (m_fill (fun _ => (nI 0)) g 10) (m_fill (fun _ => (nI 0)) ls 60)))) (as := [.int (nI 0), .int (nI 0), .int (nI k)]) (st := []) dBags_fewest_82 ml0_46 rfl (Nat.le_of_ble_eq_true rfl) ly_81 rfl rfl (by decide) (by omega) (Nat.le_of_ble_eq_true rfl) rfl (Nat.le_refl _) (Nat.le_refl _) (by have h := c_place (S := S) (d := d + 10 - nl) (J := J) (I := I) hn hR ho hr hon hRo hh hnh hl hnl hW hH hF hfo hfo9 hms hms9 (days := k) (by omega) nl 0 0 D (m_fill (fun _ => (nI 0)) g 10) (m_fill (fun _ => (nI 0)) ls 60) (fun _ => 0) (fun _ => 0) (by omega) (by omega) rwN_fill (fun _ => Nat.zero_le _) rwN_fill (fun _ => Nat.zero_le _) (fun v I2 J2 R2 => J2 = J ∧ R2 = R ∧ ((∃ as D' g' ls', v = some (.int 1) ∧ srF k ms fo (hmN (I (o + 2))) (hmN (I (o + 4))) nl 0 0 (fun _ => 0) (fun _ => 0) = some as ∧ as.length = nl ∧ (∀ i, i < nl → D' (0 + i) = nI (as.getD i 0)) ∧ I2 = bM I D' g' ls') ∨ (∃ D', v = some (.int 0) ∧ srF k ms fo (hmN (I (o + 2))) (hmN (I (o + 4))) nl 0 0 (fun _ => 0) (fun _ => 0) = none ∧ I2 = bM I D' (m_fill (fun _ => (nI 0)) g 10) (m_fill (fun _ => (nI 0)) ls 60)))) (fun as D' g' ls' h1 h2 h3 h4 => ⟨rfl, rfl, Or.inl ⟨as, D', g', ls', rfl, h1, h2, h4, rfl⟩⟩) (fun D' h1 h2 => ⟨rfl, rfl, Or.inr ⟨D', rfl, h1, rfl⟩⟩); rw [show d + 10 - nl + nl + 1 = d + 11 by omega] at h; exact h) ?_
    intro v9 I9 J9 R9 ⟨e1, e2, e3⟩
    rw [e1, e2]
    rcases e3 with ⟨as, D', g', ls', e4, e5, e6, e8, e9⟩ | ⟨D', e4, e5, e7⟩
    · rw [e4, e9]
      show AW _ _ _ _ _ _ _ _ [.int 1] (m_row (m_row (m_row I 82 (D')) 83 (g')) 84 (ls')) _ _ _
      refine a_if_eq (tgt := 91) dBags_fewest_85 (by decide) (fun c => False.elim (absurd c (by decide))) (fun _ => ?_)
      refine a_iload 0 dBags_fewest_88 rfl ?_
      exact a_iret dBags_fewest_90 rfl (hS k as D' g' ls' (by omega) e5 hp e6 (fun i hi => by have := e8 i hi; rw [Nat.zero_add] at this; exact this))
    · rw [e4, e7]
      show AW _ _ _ _ _ _ _ _ [.int 0] (m_row (m_row (m_row I 82 (D')) 83 (m_fill (fun _ => (nI 0)) g 10)) 84 (m_fill (fun _ => (nI 0)) ls 60)) _ _ _
      refine a_if_eq (tgt := 91) dBags_fewest_85 (by decide) (fun _ => ?_) (fun c => False.elim (c rfl))
      refine a_iincN (lv' := [(4, .int (nI (k + 1))), (0, .ref 81), (1, .ref o)]) (j := 0) dBags_fewest_91 rfl (by decide) rfl ?_
      refine a_goto (tgt := 52) dBags_fewest_94 (by decide) ?_
      refine a_locs (lv' := [(4, .int (nI (k + 1))), (0, .ref 81), (1, .ref o)]) [0, 1, 2] rfl ?_
      exact ih (k + 1) (by omega) (fun j hj => by
        rcases Nat.lt_or_eq_of_le (Nat.le_of_lt_succ hj) with h1 | h1
        · exact hp j h1
        · rw [h1]; exact e5) _ _ _
theorem l_fcF {S : Nat × (Nat → Int32)} {d n : Nat} {I : mI} {J : mJ} {R : mR} (hn : 122 ≤ n) (hR : m_fin R) {o nh nl : Nat} (ho : o ∈ m_offs) (hr : offR R o) (hon : o + 8 < n) (hRo : R 81 3 = some o) (hh : I o 0 = nI nh) (hnh : nh ≤ 6) (hl : I o 1 = nI nl) (hnl : nl ≤ 10) (hW : WFc I o nl) (hH : WFh (I (o + 2)) nl) (hF : WFf I o nl) {fo ms : Nat} (hfo : I 81 4 = nI fo) (hfo9 : fo ≤ 99) (hms : I 81 5 = nI ms) (hms9 : ms ≤ 10)  {Q : Option Value → mI → mJ → mR → Prop} (h0 : ∀ k, k < nl → ¬ ((hmN (I (o + 4)) k) ≤ fo) → Q (some (.int (-1))) I J R) (hx : (∀ k, k < nl → (hmN (I (o + 4)) k) ≤ fo) → AW S (d + 12) YBags_fewest n n Q 49 [(4, .int (nI nl)), (0, .ref 81), (1, .ref o)] [] I J R n) : ∀ m k, k + m = nl → (∀ j, j < k → (hmN (I (o + 4)) j) ≤ fo) → AW S (d + 12) YBags_fewest n n Q 18 [(4, .int (nI k)), (0, .ref 81), (1, .ref o)] [] I J R n := by
  intro m
  induction m with
  | zero =>
    intro k hk9 hp
    rw [show k = nl by omega] at hp ⊢
    refine a_iload 0 dBags_fewest_18 rfl ?_
    refine a_aload_n 2 dBags_fewest_20 rfl rfl ?_
    refine a_geti dBags_fewest_21 fl0_32 rfl (of_l0 ho) (by omega) ?_
    rw [show I o 1 = (nI nl) from hl]
    refine a_icmp_geN (tgt := 49) dBags_fewest_24 (by decide) (by omega) (by omega) (fun _ => ?_) (fun c => False.elim (by omega))
    exact hx hp
  | succ m ih =>
    intro k hk9 hp
    have hw9 := (hF k (by omega)).2
    refine a_iload 0 dBags_fewest_18 rfl ?_
    refine a_aload_n 2 dBags_fewest_20 rfl rfl ?_
    refine a_geti dBags_fewest_21 fl0_32 rfl (of_l0 ho) (by omega) ?_
    rw [show I o 1 = (nI nl) from hl]
    refine a_icmp_geN (tgt := 49) dBags_fewest_24 (by decide) (by omega) (by omega) (fun c => False.elim (by omega)) (fun _ => ?_)
    refine a_aload_n 2 dBags_fewest_27 rfl rfl ?_
    refine a_geta (r := (o + 4)) dBags_fewest_28 fl0_37 rfl (of_l0 ho) (by omega) (hr 3 (by decide)) ?_
    refine a_iload 0 dBags_fewest_31 rfl ?_
    refine a_ialdN (a := k) dBags_fewest_33 (of_l4 ho) (by omega) (by omega) (by decide) ?_
    rw [show I (o + 4) k = I (o + 4) k from rfl]
    rw [show (I (o + 4) k) = (nI (hmN (I (o + 4)) k)) from (hF k (by omega)).1]
    refine a_aload_n 1 dBags_fewest_34 rfl rfl ?_
    refine a_geti dBags_fewest_35 fl0_25 rfl ly_81 (by omega) ?_
    rw [show I 81 4 = (nI fo) from hfo]
    refine a_icmp_leN (tgt := 43) dBags_fewest_38 (by decide) (by omega) (by omega) (fun c38 => ?_) (fun c38 => ?_)
    · refine a_iincN (lv' := [(4, .int (nI (k + 1))), (0, .ref 81), (1, .ref o)]) (j := 0) dBags_fewest_43 rfl (by decide) rfl ?_
      refine a_goto (tgt := 18) dBags_fewest_46 (by decide) ?_
      exact ih (k + 1) (by omega) (fun j hj => by
        rcases Nat.lt_or_eq_of_le (Nat.le_of_lt_succ hj) with h1 | h1
        · exact hp j h1
        · subst h1; exact c38)
    · refine a_iconst (v := -1) dBags_fewest_41 (by decide) ?_
      exact a_iret dBags_fewest_42 rfl (h0 k (by omega) (fun q => absurd q (by omega)))
theorem bM_self {I : mI} : bM I (I 82) (I 83) (I 84) = I := by
  unfold bM
  rw [m_row_id (M := m_row (m_row I 82 (I 82)) 83 (I 83)) (n := 84) (f := I 84) rfl, m_row_id (M := m_row I 82 (I 82)) (n := 83) (f := I 83) rfl, m_row_self]
theorem b_fewest {S : Nat × (Nat → Int32)} {d n : Nat} {I : mI} {J : mJ} {R : mR} (hn : 122 ≤ n) (hR : m_fin R) {o nh nl : Nat} (ho : o ∈ m_offs) (hr : offR R o) (hon : o + 8 < n) (hRo : R 81 3 = some o) (hh : I o 0 = nI nh) (hnh : nh ≤ 6) (hl : I o 1 = nI nl) (hnl : nl ≤ 10) (hW : WFc I o nl) (hH : WFh (I (o + 2)) nl) (hF : WFf I o nl) {fo ms : Nat} (hfo : I 81 4 = nI fo) (hfo9 : fo ≤ 99) (hms : I 81 5 = nI ms) (hms9 : ms ≤ 10) {Q : Option Value → mI → mJ → mR → Prop} (h0 : (∃ l, l < nl ∧ fo < (hmN (I (o + 4)) l)) → Q (some (.int (-1))) I J R) (hS : ∀ k as D' g' ls', k ≤ nl → srF k ms fo (hmN (I (o + 2))) (hmN (I (o + 4))) nl 0 0 (fun _ => 0) (fun _ => 0) = some as → (∀ j, j < k → srF j ms fo (hmN (I (o + 2))) (hmN (I (o + 4))) nl 0 0 (fun _ => 0) (fun _ => 0) = none) → as.length = nl → (∀ i, i < nl → D' i = nI (as.getD i 0)) → Q (some (.int (nI k))) (bM I D' g' ls') J R) (hN : (∀ j, j ≤ nl → srF j ms fo (hmN (I (o + 2))) (hmN (I (o + 4))) nl 0 0 (fun _ => 0) (fun _ => 0) = none) → ∀ D' g' ls', Q (some (.int (-1))) (bM I D' g' ls') J R) : AW S (d + 12) YBags_fewest n n Q 18 [(4, .int (nI 0)), (0, .ref 81), (1, .ref o)] [] I J R n := by
  refine l_fcF hn hR ho hr hon hRo hh hnh hl hnl hW hH hF hfo hfo9 hms hms9 (fun k hk2 hp => h0 ⟨k, hk2, by omega⟩) (fun hp => ?_) nl 0 (by omega) (fun j hj => absurd hj (Nat.not_lt_zero _))
  refine a_iconstN (a := 0) dBags_fewest_49 (by decide) ?_
  refine a_istore (lv' := [(4, .int (nI 0)), (0, .ref 81), (1, .ref o)]) dBags_fewest_50 (by decide) rfl ?_
  refine a_locs (lv' := [(4, .int (nI 0)), (0, .ref 81), (1, .ref o)]) [0, 1, 2] rfl ?_
  have h := l_days (S := S) (d := d) (J := J) (I := I) hn hR ho hr hon hRo hh hnh hl hnl hW hH hF hfo hfo9 hms hms9 hS hN (nl + 1) 0 (by omega) (fun j hj => absurd hj (Nat.not_lt_zero _)) (I 82) (I 83) (I 84)
  rw [bM_self] at h
  exact h
theorem fin_81 {R : mR} {o : Nat} (h : m_fin R) : m_fin (m_up R 81 3 (some o)) := m_fin_up h (by decide +kernel)
theorem offR_81 {R : mR} {o v : Nat} (ho : o ∈ m_offs) (h : offR R o) : offR (m_up R 81 3 (some v)) o := fun k hk => by
  rw [m_up_ne (oc_ne0 ho (by decide))]
  exact h k hk
abbrev b81 (I : mI) (fo ms : Nat) : mI := m_row I 81 (va_up (va_up (I 81) 4 (nI fo)) 5 (nI ms))
theorem KP.bM {I : mI} {fo ms : Nat} {D g ls : Nat → Int32} : KP I (bM (b81 I fo ms) D g ls) := ((((KP.refl).row (by omega)).row (by omega)).row (by omega)).row (by omega)
theorem q_S_bags0 {S : Nat × (Nat → Int32)} {d n : Nat} {I : mI} {J : mJ} {R : mR} (hn : 122 ≤ n) (hR : m_fin R) {x : Int32} (h0 : f_of x (I 3 0) = 0) {y z t : Int32}  : AW S (d + 13) YS_bags n n (qV I R (.int (-1))) 0 [(0, .ref 0), (1, .int x), (2, .int y), (3, .int z), (4, .int t)] [] I J R n := by
  refine a_aload_n 0 dS_bags_0 rfl rfl ?_
  refine a_geta (r := 1) dS_bags_1 fl11_10 rfl ly_0 (by omega) (rf_0_0 hR) ?_
  refine a_iload_n 1 dS_bags_4 rfl rfl ?_
  refine a_callV (Q' := m_res (some (.null)) I J R) (as := [.int x]) (st := []) dS_bags_5 ml11_101 rfl (Nat.le_of_ble_eq_true rfl) ly_1 rfl rfl (by decide) (by omega) (Nat.le_of_ble_eq_true rfl) rfl (Nat.le_refl _) (Nat.le_refl _) (c_Told_officeAt0 hn hR h0) (m_go ?_)
  show AW _ _ _ _ _ _ _ _ [.null] _ _ _ _
  refine a_astoreN (lv' := [(5, .null), (0, .ref 0), (1, .int x), (2, .int y), (3, .int z), (4, .int t)]) dS_bags_8 (by decide) rfl ?_
  refine a_aloadN 0 dS_bags_10 rfl ?_
  refine a_ifnullN (tgt := 37) dS_bags_12 (by decide) ?_
  refine a_iconst (v := -1) dS_bags_37 (by decide) ?_
  exact a_iret dS_bags_38 rfl ⟨rfl, KP.refl, (KF.refl hR)⟩
theorem q_S_bags1 {S : Nat × (Nat → Int32)} {d n : Nat} {I : mI} {J : mJ} {R : mR} (hn : 122 ≤ n) (hR : m_fin R) {o nh nl : Nat} (ho : o ∈ m_offs) (hr : offR R o) (hon : o + 8 < n) (hh : I o 0 = nI nh) (hnh : nh ≤ 6) (hl : I o 1 = nI nl) (hnl : nl ≤ 10) (hW : WFc I o nl) (hH : WFh (I (o + 2)) nl) {k : Nat} (h1 : f_of (nI k) (I 3 0) = 1) (hk : k < 2) (hro : R 4 k = some o) {y z t : Int32} (hy : y < nI 1 ∨ nI 99 < y ∨ z < nI 1 ∨ nI 10 < z)  : AW S (d + 13) YS_bags n n (qV I R (.int (-1))) 0 [(0, .ref 0), (1, .int (nI k)), (2, .int y), (3, .int z), (4, .int t)] [] I J R n := by
  refine a_aload_n 0 dS_bags_0 rfl rfl ?_
  refine a_geta (r := 1) dS_bags_1 fl11_10 rfl ly_0 (by omega) (rf_0_0 hR) ?_
  refine a_iload_n 1 dS_bags_4 rfl rfl ?_
  refine a_callV (Q' := m_res (some (.ref o)) I J R) (as := [.int (nI k)]) (st := []) dS_bags_5 ml11_101 rfl (Nat.le_of_ble_eq_true rfl) ly_1 rfl rfl (by decide) (by omega) (Nat.le_of_ble_eq_true rfl) rfl (Nat.le_refl _) (Nat.le_refl _) (c_Told_officeAt1 hn hR h1 hk hro) (m_go ?_)
  show AW _ _ _ _ _ _ _ _ [.ref o] _ _ _ _
  refine a_astore (lv' := [(5, .ref o), (0, .ref 0), (1, .int (nI k)), (2, .int y), (3, .int z), (4, .int t)]) dS_bags_8 (by decide) rfl ?_
  refine a_aload 0 dS_bags_10 rfl ?_
  refine a_ifnull dS_bags_12 ?_
  refine a_iload_n 3 dS_bags_15 rfl rfl ?_
  refine a_iconstN (a := 1) dS_bags_16 (by decide) ?_
  refine a_icmp_lt (tgt := 37) dS_bags_17 (by decide) (fun c17 => ?_) (fun c17 => ?_)
  · refine a_iconst (v := -1) dS_bags_37 (by decide) ?_
    exact a_iret dS_bags_38 rfl ⟨rfl, KP.refl, (KF.refl hR)⟩
  · refine a_iload_n 3 dS_bags_20 rfl rfl ?_
    refine a_bipushN (a := 99) dS_bags_21 (by decide) ?_
    refine a_icmp_gt (tgt := 37) dS_bags_23 (by decide) (fun c23 => ?_) (fun c23 => ?_)
    · refine a_iconst (v := -1) dS_bags_37 (by decide) ?_
      exact a_iret dS_bags_38 rfl ⟨rfl, KP.refl, (KF.refl hR)⟩
    · refine a_iload_n 4 dS_bags_26 rfl rfl ?_
      refine a_iconstN (a := 1) dS_bags_27 (by decide) ?_
      refine a_icmp_lt (tgt := 37) dS_bags_28 (by decide) (fun c28 => ?_) (fun c28 => ?_)
      · refine a_iconst (v := -1) dS_bags_37 (by decide) ?_
        exact a_iret dS_bags_38 rfl ⟨rfl, KP.refl, (KF.refl hR)⟩
      · refine a_iload_n 4 dS_bags_31 rfl rfl ?_
        refine a_bipushN (a := 10) dS_bags_32 (by decide) ?_
        refine a_icmp_le (tgt := 39) dS_bags_34 (by decide) (fun c34 => ?_) (fun c34 => ?_)
        · exfalso
          rcases hy with h | h | h | h
          · exact c17 h
          · exact c23 h
          · exact c28 h
          · exact absurd c34 (Int32.not_le.mpr h)
        · refine a_iconst (v := -1) dS_bags_37 (by decide) ?_
          exact a_iret dS_bags_38 rfl ⟨rfl, KP.refl, (KF.refl hR)⟩
theorem q_S_bags2 {S : Nat × (Nat → Int32)} {d n : Nat} {I : mI} {J : mJ} {R : mR} (hn : 122 ≤ n) (hR : m_fin R) {o nh nl : Nat} (ho : o ∈ m_offs) (hr : offR R o) (hon : o + 8 < n) (hh : I o 0 = nI nh) (hnh : nh ≤ 6) (hl : I o 1 = nI nl) (hnl : nl ≤ 10) (hW : WFc I o nl) (hH : WFh (I (o + 2)) nl) {k : Nat} (h1 : f_of (nI k) (I 3 0) = 1) (hk : k < 2) (hro : R 4 k = some o) {fo ms : Nat} (hfo1 : 1 ≤ fo) (hfo9 : fo ≤ 99) (hms1 : 1 ≤ ms) (hms9 : ms ≤ 10) {t : Int32} (ht : ¬ t = -1) (ht2 : f_of t (nI nl) = 0)  : AW S (d + 13) YS_bags n n (qV I R (.int (-1))) 0 [(0, .ref 0), (1, .int (nI k)), (2, .int (nI fo)), (3, .int (nI ms)), (4, .int t)] [] I J R n := by
  refine a_aload_n 0 dS_bags_0 rfl rfl ?_
  refine a_geta (r := 1) dS_bags_1 fl11_10 rfl ly_0 (by omega) (rf_0_0 hR) ?_
  refine a_iload_n 1 dS_bags_4 rfl rfl ?_
  refine a_callV (Q' := m_res (some (.ref o)) I J R) (as := [.int (nI k)]) (st := []) dS_bags_5 ml11_101 rfl (Nat.le_of_ble_eq_true rfl) ly_1 rfl rfl (by decide) (by omega) (Nat.le_of_ble_eq_true rfl) rfl (Nat.le_refl _) (Nat.le_refl _) (c_Told_officeAt1 hn hR h1 hk hro) (m_go ?_)
  show AW _ _ _ _ _ _ _ _ [.ref o] _ _ _ _
  refine a_astore (lv' := [(5, .ref o), (0, .ref 0), (1, .int (nI k)), (2, .int (nI fo)), (3, .int (nI ms)), (4, .int t)]) dS_bags_8 (by decide) rfl ?_
  refine a_aload 0 dS_bags_10 rfl ?_
  refine a_ifnull dS_bags_12 ?_
  refine a_iload_n 3 dS_bags_15 rfl rfl ?_
  refine a_iconstN (a := 1) dS_bags_16 (by decide) ?_
  refine a_icmp_ltN (tgt := 37) dS_bags_17 (by decide) (by omega) (by omega) (fun c => False.elim (by omega)) (fun _ => ?_)
  refine a_iload_n 3 dS_bags_20 rfl rfl ?_
  refine a_bipushN (a := 99) dS_bags_21 (by decide) ?_
  refine a_icmp_gtN (tgt := 37) dS_bags_23 (by decide) (by omega) (by omega) (fun c => False.elim (by omega)) (fun _ => ?_)
  refine a_iload_n 4 dS_bags_26 rfl rfl ?_
  refine a_iconstN (a := 1) dS_bags_27 (by decide) ?_
  refine a_icmp_ltN (tgt := 37) dS_bags_28 (by decide) (by omega) (by omega) (fun c => False.elim (by omega)) (fun _ => ?_)
  refine a_iload_n 4 dS_bags_31 rfl rfl ?_
  refine a_bipushN (a := 10) dS_bags_32 (by decide) ?_
  refine a_icmp_leN (tgt := 39) dS_bags_34 (by decide) (by omega) (by omega) (fun _ => ?_) (fun c => False.elim (by omega))
  refine a_iload 5 dS_bags_39 rfl ?_
  refine a_iconst (v := -1) dS_bags_41 (by decide) ?_
  refine a_icmp_eq (tgt := 57) dS_bags_42 (by decide) (fun c => False.elim (ht c)) (fun _ => ?_)
  refine a_aload 0 dS_bags_45 rfl ?_
  refine a_iload 5 dS_bags_47 rfl ?_
  refine a_callV (Q' := m_res (some (.int (f_of t (nI nl)))) I J R) (as := [.int t]) (st := []) dS_bags_49 ml11_111 rfl (Nat.le_of_ble_eq_true rfl) (of_l0 ho) rfl rfl (by decide) (by omega) (Nat.le_of_ble_eq_true rfl) rfl (Nat.le_refl _) (Nat.le_refl _) (by have h := c_Office_hasLetter (S := S) (d := d + 12) (n := n) (J := J) (R := R) (I := I) (h := t) ho hr hon; rw [hl] at h; exact h) (m_go ?_)
  show AW _ _ _ _ _ _ _ _ [.int (f_of t (nI nl))] _ _ _ _
  refine a_if_ne (tgt := 57) dS_bags_52 (by decide) (fun c => False.elim (c ht2)) (fun _ => ?_)
  refine a_iconst (v := -1) dS_bags_55 (by decide) ?_
  exact a_iret dS_bags_56 rfl ⟨rfl, KP.refl, (KF.refl hR)⟩
theorem w81 {I : mI} {o fo ms k : Nat} (ho : o ∈ m_offs) (hk : k < 9) : b81 I fo ms (o + k) = I (o + k) := off_row ho (by decide) hk
theorem q_S_bags3 {S : Nat × (Nat → Int32)} {d n : Nat} {I : mI} {J : mJ} {R : mR} (hn : 122 ≤ n) (hR : m_fin R) {o nh nl : Nat} (ho : o ∈ m_offs) (hr : offR R o) (hon : o + 8 < n) (hh : I o 0 = nI nh) (hnh : nh ≤ 6) (hl : I o 1 = nI nl) (hnl : nl ≤ 10) (hW : WFc I o nl) (hH : WFh (I (o + 2)) nl) {k : Nat} (h1 : f_of (nI k) (I 3 0) = 1) (hk : k < 2) (hro : R 4 k = some o) {fo ms : Nat} (hfo1 : 1 ≤ fo) (hfo9 : fo ≤ 99) (hms1 : 1 ≤ ms) (hms9 : ms ≤ 10) (hF : WFf I o nl) {v : Int32} (hv1 : (∃ l, l < nl ∧ fo < (hmN (I (o + 4)) l)) → v = -1) (hv2 : ∀ j as, j ≤ nl → srF j ms fo (hmN (I (o + 2))) (hmN (I (o + 4))) nl 0 0 (fun _ => 0) (fun _ => 0) = some as → (∀ i, i < j → srF i ms fo (hmN (I (o + 2))) (hmN (I (o + 4))) nl 0 0 (fun _ => 0) (fun _ => 0) = none) → as.length = nl → v = nI j) (hv3 : (∀ j, j ≤ nl → srF j ms fo (hmN (I (o + 2))) (hmN (I (o + 4))) nl 0 0 (fun _ => 0) (fun _ => 0) = none) → v = -1) : AW S (d + 13) YS_bags n n (qV I R (.int v)) 0 [(0, .ref 0), (1, .int (nI k)), (2, .int (nI fo)), (3, .int (nI ms)), (4, .int (-1))] [] I J R n := by
  refine a_aload_n 0 dS_bags_0 rfl rfl ?_
  refine a_geta (r := 1) dS_bags_1 fl11_10 rfl ly_0 (by omega) (rf_0_0 hR) ?_
  refine a_iload_n 1 dS_bags_4 rfl rfl ?_
  refine a_callV (Q' := m_res (some (.ref o)) I J R) (as := [.int (nI k)]) (st := []) dS_bags_5 ml11_101 rfl (Nat.le_of_ble_eq_true rfl) ly_1 rfl rfl (by decide) (by omega) (Nat.le_of_ble_eq_true rfl) rfl (Nat.le_refl _) (Nat.le_refl _) (c_Told_officeAt1 hn hR h1 hk hro) (m_go ?_)
  show AW _ _ _ _ _ _ _ _ [.ref o] _ _ _ _
  refine a_astore (lv' := [(5, .ref o), (0, .ref 0), (1, .int (nI k)), (2, .int (nI fo)), (3, .int (nI ms)), (4, .int (-1))]) dS_bags_8 (by decide) rfl ?_
  refine a_aload 0 dS_bags_10 rfl ?_
  refine a_ifnull dS_bags_12 ?_
  refine a_iload_n 3 dS_bags_15 rfl rfl ?_
  refine a_iconstN (a := 1) dS_bags_16 (by decide) ?_
  refine a_icmp_ltN (tgt := 37) dS_bags_17 (by decide) (by omega) (by omega) (fun c => False.elim (by omega)) (fun _ => ?_)
  refine a_iload_n 3 dS_bags_20 rfl rfl ?_
  refine a_bipushN (a := 99) dS_bags_21 (by decide) ?_
  refine a_icmp_gtN (tgt := 37) dS_bags_23 (by decide) (by omega) (by omega) (fun c => False.elim (by omega)) (fun _ => ?_)
  refine a_iload_n 4 dS_bags_26 rfl rfl ?_
  refine a_iconstN (a := 1) dS_bags_27 (by decide) ?_
  refine a_icmp_ltN (tgt := 37) dS_bags_28 (by decide) (by omega) (by omega) (fun c => False.elim (by omega)) (fun _ => ?_)
  refine a_iload_n 4 dS_bags_31 rfl rfl ?_
  refine a_bipushN (a := 10) dS_bags_32 (by decide) ?_
  refine a_icmp_leN (tgt := 39) dS_bags_34 (by decide) (by omega) (by omega) (fun _ => ?_) (fun c => False.elim (by omega))
  refine a_iload 5 dS_bags_39 rfl ?_
  refine a_iconst (v := -1) dS_bags_41 (by decide) ?_
  refine a_icmp_eq (tgt := 57) dS_bags_42 (by decide) (fun _ => ?_) (fun c => False.elim (c rfl))
  refine a_aload_n 1 dS_bags_57 rfl rfl ?_
  refine a_geta (r := 81) dS_bags_58 fl11_51 rfl ly_0 (by omega) (rf_0_6 hR) ?_
  refine a_aload 0 dS_bags_61 rfl ?_
  refine a_iload_n 3 dS_bags_63 rfl rfl ?_
  refine a_iload_n 4 dS_bags_64 rfl rfl ?_
  refine a_callV (Q' := fun v2 I2 J2 R2 => J2 = J ∧ R2 = (m_up R 81 3 (some o)) ∧ ∃ D' g' ls', I2 = bM (b81 I fo ms) D' g' ls' ∧ ((∃ j as, v2 = some (.int (nI j)) ∧ j ≤ nl ∧ srF j ms fo (hmN (I (o + 2))) (hmN (I (o + 4))) nl 0 0 (fun _ => 0) (fun _ => 0) = some as ∧ (∀ i, i < j → srF i ms fo (hmN (I (o + 2))) (hmN (I (o + 4))) nl 0 0 (fun _ => 0) (fun _ => 0) = none) ∧ as.length = nl ∧ (∀ i, i < nl → D' i = nI (as.getD i 0))) ∨ (v2 = some (.int (-1)) ∧ v = -1))) (as := [.ref o, .int (nI fo), .int (nI ms)]) (st := []) dS_bags_65 ml11_178 rfl (Nat.le_of_ble_eq_true rfl) ly_81 rfl rfl (by decide) (by omega) (Nat.le_of_ble_eq_true rfl) rfl (Nat.le_refl _) (Nat.le_refl _) ?_ ?_
  · show AW S _ YBags_fewest n n _ 0 [(0, .ref 81), (1, .ref o), (2, .int (nI fo)), (3, .int (nI ms))] [] I J R n
    refine a_mem (m_row_self (I := I) (a := 81)).symm ?_
    refine a_aload_n 0 dBags_fewest_0 rfl rfl ?_
    refine a_aload_n 1 dBags_fewest_1 rfl rfl ?_
    refine a_puta dBags_fewest_2 fl0_21 rfl rfl (fun h => by cases h) ly_81 (by omega) ?_
    refine a_aload_n 0 dBags_fewest_5 rfl rfl ?_
    refine a_iload_n 2 dBags_fewest_6 rfl rfl ?_
    refine a_puti dBags_fewest_7 fl0_25 rfl ly_81 (by omega) ?_
    rw [show m_up (m_row I 81 (I 81)) 81 4 (nI fo) = (m_row I 81 (va_up (I 81) 4 (nI fo))) from (by rw [m_up_r])]
    refine a_aload_n 0 dBags_fewest_10 rfl rfl ?_
    refine a_iload_n 3 dBags_fewest_11 rfl rfl ?_
    refine a_puti dBags_fewest_12 fl0_29 rfl ly_81 (by omega) ?_
    rw [show m_up (m_row I 81 (va_up (I 81) 4 (nI fo))) 81 5 (nI ms) = (m_row I 81 (va_up (va_up (I 81) 4 (nI fo)) 5 (nI ms))) from (by rw [m_up_r])]
    refine a_iconstN (a := 0) dBags_fewest_15 (by decide) ?_
    refine a_istore (lv' := [(4, .int (nI 0)), (0, .ref 81), (1, .ref o), (2, .int (nI fo)), (3, .int (nI ms))]) dBags_fewest_16 (by decide) rfl ?_
    refine a_locs (lv' := [(4, .int (nI 0)), (0, .ref 81), (1, .ref o)]) [0, 1, 2] rfl ?_
    have e2 : (b81 I fo ms) (o + 2) = I (o + 2) := w81 ho (by decide)
    have e3 : (b81 I fo ms) (o + 3) = I (o + 3) := w81 ho (by decide)
    have e4 : (b81 I fo ms) (o + 4) = I (o + 4) := w81 ho (by decide)
    have e0 : (b81 I fo ms) o = I o := w81 (k := 0) ho (by decide)
    refine b_fewest (I := (b81 I fo ms)) (fo := fo) (ms := ms) hn (fin_81 hR) ho (offR_81 ho hr) hon m_up_at (nh := nh) (nl := nl) (by rw [e0]; exact hh) hnh (by rw [e0]; exact hl) hnl (fun l hl2 => by rw [e3]; exact hW l hl2) (by rw [e2]; exact hH) (fun l hl2 => by rw [e4]; exact hF l hl2) rfl hfo9 rfl hms9 (fun hx => ?_) (fun j as D' g' ls' b1 b2 b3 b4 b5 => ?_) (fun hx D' g' ls' => ?_)
    · rw [e4] at hx
      exact ⟨rfl, rfl, (b81 I fo ms) 82, (b81 I fo ms) 83, (b81 I fo ms) 84, bM_self.symm, Or.inr ⟨rfl, hv1 hx⟩⟩
    · rw [e2, e4] at b2 b3
      exact ⟨rfl, rfl, D', g', ls', rfl, Or.inl ⟨j, as, rfl, b1, b2, b3, b4, b5⟩⟩
    · rw [e2, e4] at hx
      exact ⟨rfl, rfl, D', g', ls', rfl, Or.inr ⟨rfl, hv3 hx⟩⟩
  · intro v9 I9 J9 R9 ⟨e1, e2, D', g', ls', e3, e4⟩
    rw [e1, e2, e3]
    have hkf : KF R (m_up R 81 3 (some o)) := KF.up81 (KF.refl hR)
    rcases e4 with ⟨j, as, e5, b1, b2, b3, b4, b5⟩ | ⟨e5, e6⟩
    · subst e5
      show AW _ _ _ _ _ _ _ _ [.int (nI j)] _ _ _ _
      refine a_istore (lv' := [(6, .int (nI j)), (5, .ref o), (0, .ref 0), (1, .int (nI k)), (2, .int (nI fo)), (3, .int (nI ms)), (4, .int (-1))]) dS_bags_68 (by decide) rfl ?_
      refine a_iload 6 dS_bags_70 rfl ?_
      refine a_iconst (v := -1) dS_bags_72 (by decide) ?_
      refine a_icmp_eq (tgt := 82) dS_bags_73 (by decide) (fun _ => ?_) (fun c => False.elim (c rfl))
      refine a_iload 0 dS_bags_82 rfl ?_
      refine a_goto (tgt := 97) dS_bags_84 (by decide) ?_
      exact a_iret dS_bags_97 rfl ⟨by rw [hv2 j as b1 b2 b3 b4], KP.bM, hkf⟩
    · subst e5
      show AW _ _ _ _ _ _ _ _ [.int (-1)] _ _ _ _
      refine a_istore (lv' := [(6, .int (-1)), (5, .ref o), (0, .ref 0), (1, .int (nI k)), (2, .int (nI fo)), (3, .int (nI ms)), (4, .int (-1))]) dS_bags_68 (by decide) rfl ?_
      refine a_iload 6 dS_bags_70 rfl ?_
      refine a_iconst (v := -1) dS_bags_72 (by decide) ?_
      refine a_icmp_eq (tgt := 82) dS_bags_73 (by decide) (fun _ => ?_) (fun c => False.elim (c rfl))
      refine a_iload 0 dS_bags_82 rfl ?_
      refine a_goto (tgt := 97) dS_bags_84 (by decide) ?_
      exact a_iret dS_bags_97 rfl ⟨by rw [e6], KP.bM, hkf⟩
theorem q_S_bags4 {S : Nat × (Nat → Int32)} {d n : Nat} {I : mI} {J : mJ} {R : mR} (hn : 122 ≤ n) (hR : m_fin R) {o nh nl : Nat} (ho : o ∈ m_offs) (hr : offR R o) (hon : o + 8 < n) (hh : I o 0 = nI nh) (hnh : nh ≤ 6) (hl : I o 1 = nI nl) (hnl : nl ≤ 10) (hW : WFc I o nl) (hH : WFh (I (o + 2)) nl) {k : Nat} (h1 : f_of (nI k) (I 3 0) = 1) (hk : k < 2) (hro : R 4 k = some o) {fo ms : Nat} (hfo1 : 1 ≤ fo) (hfo9 : fo ≤ 99) (hms1 : 1 ≤ ms) (hms9 : ms ≤ 10) (hF : WFf I o nl) {l : Nat} (hln : l < nl) {v : Int32} (hv1 : (∃ l, l < nl ∧ fo < (hmN (I (o + 4)) l)) → v = -1) (hv2 : ∀ j as, j ≤ nl → srF j ms fo (hmN (I (o + 2))) (hmN (I (o + 4))) nl 0 0 (fun _ => 0) (fun _ => 0) = some as → (∀ i, i < j → srF i ms fo (hmN (I (o + 2))) (hmN (I (o + 4))) nl 0 0 (fun _ => 0) (fun _ => 0) = none) → as.length = nl → v = nI (as.getD l 0)) (hv3 : (∀ j, j ≤ nl → srF j ms fo (hmN (I (o + 2))) (hmN (I (o + 4))) nl 0 0 (fun _ => 0) (fun _ => 0) = none) → v = -1) : AW S (d + 13) YS_bags n n (qV I R (.int v)) 0 [(0, .ref 0), (1, .int (nI k)), (2, .int (nI fo)), (3, .int (nI ms)), (4, .int (nI l))] [] I J R n := by
  refine a_aload_n 0 dS_bags_0 rfl rfl ?_
  refine a_geta (r := 1) dS_bags_1 fl11_10 rfl ly_0 (by omega) (rf_0_0 hR) ?_
  refine a_iload_n 1 dS_bags_4 rfl rfl ?_
  refine a_callV (Q' := m_res (some (.ref o)) I J R) (as := [.int (nI k)]) (st := []) dS_bags_5 ml11_101 rfl (Nat.le_of_ble_eq_true rfl) ly_1 rfl rfl (by decide) (by omega) (Nat.le_of_ble_eq_true rfl) rfl (Nat.le_refl _) (Nat.le_refl _) (c_Told_officeAt1 hn hR h1 hk hro) (m_go ?_)
  show AW _ _ _ _ _ _ _ _ [.ref o] _ _ _ _
  refine a_astore (lv' := [(5, .ref o), (0, .ref 0), (1, .int (nI k)), (2, .int (nI fo)), (3, .int (nI ms)), (4, .int (nI l))]) dS_bags_8 (by decide) rfl ?_
  refine a_aload 0 dS_bags_10 rfl ?_
  refine a_ifnull dS_bags_12 ?_
  refine a_iload_n 3 dS_bags_15 rfl rfl ?_
  refine a_iconstN (a := 1) dS_bags_16 (by decide) ?_
  refine a_icmp_ltN (tgt := 37) dS_bags_17 (by decide) (by omega) (by omega) (fun c => False.elim (by omega)) (fun _ => ?_)
  refine a_iload_n 3 dS_bags_20 rfl rfl ?_
  refine a_bipushN (a := 99) dS_bags_21 (by decide) ?_
  refine a_icmp_gtN (tgt := 37) dS_bags_23 (by decide) (by omega) (by omega) (fun c => False.elim (by omega)) (fun _ => ?_)
  refine a_iload_n 4 dS_bags_26 rfl rfl ?_
  refine a_iconstN (a := 1) dS_bags_27 (by decide) ?_
  refine a_icmp_ltN (tgt := 37) dS_bags_28 (by decide) (by omega) (by omega) (fun c => False.elim (by omega)) (fun _ => ?_)
  refine a_iload_n 4 dS_bags_31 rfl rfl ?_
  refine a_bipushN (a := 10) dS_bags_32 (by decide) ?_
  refine a_icmp_leN (tgt := 39) dS_bags_34 (by decide) (by omega) (by omega) (fun _ => ?_) (fun c => False.elim (by omega))
  refine a_iload 5 dS_bags_39 rfl ?_
  refine a_iconst (v := -1) dS_bags_41 (by decide) ?_
  refine a_icmp_eq (tgt := 57) dS_bags_42 (by decide) (fun c => False.elim (nI_m1 (by omega) c)) (fun _ => ?_)
  refine a_aload 0 dS_bags_45 rfl ?_
  refine a_iload 5 dS_bags_47 rfl ?_
  refine a_callV (Q' := m_res (some (.int (f_of (nI l) (nI nl)))) I J R) (as := [.int (nI l)]) (st := []) dS_bags_49 ml11_111 rfl (Nat.le_of_ble_eq_true rfl) (of_l0 ho) rfl rfl (by decide) (by omega) (Nat.le_of_ble_eq_true rfl) rfl (Nat.le_refl _) (Nat.le_refl _) (by have h := c_Office_hasLetter (S := S) (d := d + 12) (n := n) (J := J) (R := R) (I := I) (h := (nI l)) ho hr hon; rw [hl] at h; exact h) (m_go ?_)
  show AW _ _ _ _ _ _ _ _ [.int (f_of (nI l) (nI nl))] _ _ _ _
  refine a_if_ne (tgt := 57) dS_bags_52 (by decide) (fun _ => ?_) (fun c => False.elim (absurd c (by rw [f_of_n (by omega) hln]; decide)))
  refine a_aload_n 1 dS_bags_57 rfl rfl ?_
  refine a_geta (r := 81) dS_bags_58 fl11_51 rfl ly_0 (by omega) (rf_0_6 hR) ?_
  refine a_aload 0 dS_bags_61 rfl ?_
  refine a_iload_n 3 dS_bags_63 rfl rfl ?_
  refine a_iload_n 4 dS_bags_64 rfl rfl ?_
  refine a_callV (Q' := fun v2 I2 J2 R2 => J2 = J ∧ R2 = (m_up R 81 3 (some o)) ∧ ∃ D' g' ls', I2 = bM (b81 I fo ms) D' g' ls' ∧ ((∃ j as, v2 = some (.int (nI j)) ∧ j ≤ nl ∧ srF j ms fo (hmN (I (o + 2))) (hmN (I (o + 4))) nl 0 0 (fun _ => 0) (fun _ => 0) = some as ∧ (∀ i, i < j → srF i ms fo (hmN (I (o + 2))) (hmN (I (o + 4))) nl 0 0 (fun _ => 0) (fun _ => 0) = none) ∧ as.length = nl ∧ (∀ i, i < nl → D' i = nI (as.getD i 0))) ∨ (v2 = some (.int (-1)) ∧ v = -1))) (as := [.ref o, .int (nI fo), .int (nI ms)]) (st := []) dS_bags_65 ml11_178 rfl (Nat.le_of_ble_eq_true rfl) ly_81 rfl rfl (by decide) (by omega) (Nat.le_of_ble_eq_true rfl) rfl (Nat.le_refl _) (Nat.le_refl _) ?_ ?_
  · show AW S _ YBags_fewest n n _ 0 [(0, .ref 81), (1, .ref o), (2, .int (nI fo)), (3, .int (nI ms))] [] I J R n
    refine a_mem (m_row_self (I := I) (a := 81)).symm ?_
    refine a_aload_n 0 dBags_fewest_0 rfl rfl ?_
    refine a_aload_n 1 dBags_fewest_1 rfl rfl ?_
    refine a_puta dBags_fewest_2 fl0_21 rfl rfl (fun h => by cases h) ly_81 (by omega) ?_
    refine a_aload_n 0 dBags_fewest_5 rfl rfl ?_
    refine a_iload_n 2 dBags_fewest_6 rfl rfl ?_
    refine a_puti dBags_fewest_7 fl0_25 rfl ly_81 (by omega) ?_
    rw [show m_up (m_row I 81 (I 81)) 81 4 (nI fo) = (m_row I 81 (va_up (I 81) 4 (nI fo))) from (by rw [m_up_r])]
    refine a_aload_n 0 dBags_fewest_10 rfl rfl ?_
    refine a_iload_n 3 dBags_fewest_11 rfl rfl ?_
    refine a_puti dBags_fewest_12 fl0_29 rfl ly_81 (by omega) ?_
    rw [show m_up (m_row I 81 (va_up (I 81) 4 (nI fo))) 81 5 (nI ms) = (m_row I 81 (va_up (va_up (I 81) 4 (nI fo)) 5 (nI ms))) from (by rw [m_up_r])]
    refine a_iconstN (a := 0) dBags_fewest_15 (by decide) ?_
    refine a_istore (lv' := [(4, .int (nI 0)), (0, .ref 81), (1, .ref o), (2, .int (nI fo)), (3, .int (nI ms))]) dBags_fewest_16 (by decide) rfl ?_
    refine a_locs (lv' := [(4, .int (nI 0)), (0, .ref 81), (1, .ref o)]) [0, 1, 2] rfl ?_
    have e2 : (b81 I fo ms) (o + 2) = I (o + 2) := w81 ho (by decide)
    have e3 : (b81 I fo ms) (o + 3) = I (o + 3) := w81 ho (by decide)
    have e4 : (b81 I fo ms) (o + 4) = I (o + 4) := w81 ho (by decide)
    have e0 : (b81 I fo ms) o = I o := w81 (k := 0) ho (by decide)
    refine b_fewest (I := (b81 I fo ms)) (fo := fo) (ms := ms) hn (fin_81 hR) ho (offR_81 ho hr) hon m_up_at (nh := nh) (nl := nl) (by rw [e0]; exact hh) hnh (by rw [e0]; exact hl) hnl (fun l hl2 => by rw [e3]; exact hW l hl2) (by rw [e2]; exact hH) (fun l hl2 => by rw [e4]; exact hF l hl2) rfl hfo9 rfl hms9 (fun hx => ?_) (fun j as D' g' ls' b1 b2 b3 b4 b5 => ?_) (fun hx D' g' ls' => ?_)
    · rw [e4] at hx
      exact ⟨rfl, rfl, (b81 I fo ms) 82, (b81 I fo ms) 83, (b81 I fo ms) 84, bM_self.symm, Or.inr ⟨rfl, hv1 hx⟩⟩
    · rw [e2, e4] at b2 b3
      exact ⟨rfl, rfl, D', g', ls', rfl, Or.inl ⟨j, as, rfl, b1, b2, b3, b4, b5⟩⟩
    · rw [e2, e4] at hx
      exact ⟨rfl, rfl, D', g', ls', rfl, Or.inr ⟨rfl, hv3 hx⟩⟩
  · intro v9 I9 J9 R9 ⟨e1, e2, D', g', ls', e3, e4⟩
    rw [e1, e2, e3]
    have hkf : KF R (m_up R 81 3 (some o)) := KF.up81 (KF.refl hR)
    rcases e4 with ⟨j, as, e5, b1, b2, b3, b4, b5⟩ | ⟨e5, e6⟩
    · subst e5
      show AW _ _ _ _ _ _ _ _ [.int (nI j)] _ _ _ _
      refine a_istore (lv' := [(6, .int (nI j)), (5, .ref o), (0, .ref 0), (1, .int (nI k)), (2, .int (nI fo)), (3, .int (nI ms)), (4, .int (nI l))]) dS_bags_68 (by decide) rfl ?_
      refine a_iload 6 dS_bags_70 rfl ?_
      refine a_iconst (v := -1) dS_bags_72 (by decide) ?_
      refine a_icmp_eq (tgt := 82) dS_bags_73 (by decide) (fun c => False.elim (nI_m1 (by omega) c)) (fun _ => ?_)
      refine a_iload 0 dS_bags_76 rfl ?_
      refine a_iconst (v := -1) dS_bags_78 (by decide) ?_
      refine a_icmp_ne (tgt := 87) dS_bags_79 (by decide) (fun _ => ?_) (fun c => False.elim (nI_m1 (by omega) c))
      refine a_aload_n 2 dS_bags_87 rfl rfl ?_
      refine a_geta (r := 81) dS_bags_88 fl11_51 rfl ly_0 (by omega) (rf_0_6 (fin_81 hR)) ?_
      refine a_geta (r := 82) dS_bags_91 fl11_181 rfl ly_81 (by omega) (rf_81_0 (fin_81 hR)) ?_
      refine a_iload 6 dS_bags_94 rfl ?_
      refine a_ialdN (a := l) dS_bags_96 ly_82 (by omega) (by omega) (by decide) ?_
      rw [show (bM (b81 I fo ms) D' g' ls') 82 l = D' l from rfl]
      exact a_iret dS_bags_97 rfl ⟨by rw [b5 l hln, hv2 j as b1 b2 b3 b4], KP.bM, hkf⟩
    · subst e5
      show AW _ _ _ _ _ _ _ _ [.int (-1)] _ _ _ _
      refine a_istore (lv' := [(6, .int (-1)), (5, .ref o), (0, .ref 0), (1, .int (nI k)), (2, .int (nI fo)), (3, .int (nI ms)), (4, .int (nI l))]) dS_bags_68 (by decide) rfl ?_
      refine a_iload 6 dS_bags_70 rfl ?_
      refine a_iconst (v := -1) dS_bags_72 (by decide) ?_
      refine a_icmp_eq (tgt := 82) dS_bags_73 (by decide) (fun c => False.elim (nI_m1 (by omega) c)) (fun _ => ?_)
      refine a_iload 0 dS_bags_76 rfl ?_
      refine a_iconst (v := -1) dS_bags_78 (by decide) ?_
      refine a_icmp_ne (tgt := 87) dS_bags_79 (by decide) (fun c => False.elim (c rfl)) (fun _ => ?_)
      refine a_iload 0 dS_bags_82 rfl ?_
      refine a_goto (tgt := 97) dS_bags_84 (by decide) ?_
      exact a_iret dS_bags_97 rfl ⟨by rw [e6], KP.bM, hkf⟩
theorem q_S_ruledN {S : Nat × (Nat → Int32)} {d n : Nat} {I : mI} {J : mJ} {R : mR} (hn : 122 ≤ n) (hR : m_fin R) {x : Int32} (h0 : f_of x (I 3 0) = 0) {y : Int32}  : AW S (d + 6) YS_ruled n n (qV I R (.int (-1))) 0 [(0, .ref 0), (1, .int x), (2, .int y)] [] I J R n := by
  refine a_aload_n 0 dS_ruled_0 rfl rfl ?_
  refine a_geta (r := 1) dS_ruled_1 fl11_10 rfl ly_0 (by omega) (rf_0_0 hR) ?_
  refine a_iload_n 1 dS_ruled_4 rfl rfl ?_
  refine a_callV (Q' := m_res (some (.null)) I J R) (as := [.int x]) (st := []) dS_ruled_5 ml11_101 rfl (Nat.le_of_ble_eq_true rfl) ly_1 rfl rfl (by decide) (by omega) (Nat.le_of_ble_eq_true rfl) rfl (Nat.le_refl _) (Nat.le_refl _) (c_Told_officeAt0 hn hR h0) (m_go ?_)
  show AW _ _ _ _ _ _ _ _ [.null] _ _ _ _
  refine a_astore_nN (lv' := [(3, .null), (0, .ref 0), (1, .int x), (2, .int y)]) dS_ruled_8 rfl (by decide) rfl ?_
  refine a_aload_nN 0 dS_ruled_9 rfl rfl ?_
  refine a_ifnonnullN dS_ruled_10 ?_
  refine a_iconst (v := -1) dS_ruled_13 (by decide) ?_
  exact a_iret dS_ruled_14 rfl ⟨rfl, KP.refl, (KF.refl hR)⟩
theorem q_S_ruled0 {S : Nat × (Nat → Int32)} {d n : Nat} {I : mI} {J : mJ} {R : mR} (hn : 122 ≤ n) (hR : m_fin R) {o nh nl : Nat} (ho : o ∈ m_offs) (hr : offR R o) (hon : o + 8 < n) (hh : I o 0 = nI nh) (hnh : nh ≤ 6) (hl : I o 1 = nI nl) (hnl : nl ≤ 10) (hW : WFc I o nl) (hH : WFh (I (o + 2)) nl) {k : Nat} (h1 : f_of (nI k) (I 3 0) = 1) (hk : k < 2) (hro : R 4 k = some o)  : AW S (d + 6) YS_ruled n n (qV I R (.int (nI (rcB I o nl 0 nl)))) 0 [(0, .ref 0), (1, .int (nI k)), (2, .int (nI 0))] [] I J R n := by
  refine a_aload_n 0 dS_ruled_0 rfl rfl ?_
  refine a_geta (r := 1) dS_ruled_1 fl11_10 rfl ly_0 (by omega) (rf_0_0 hR) ?_
  refine a_iload_n 1 dS_ruled_4 rfl rfl ?_
  refine a_callV (Q' := m_res (some (.ref o)) I J R) (as := [.int (nI k)]) (st := []) dS_ruled_5 ml11_101 rfl (Nat.le_of_ble_eq_true rfl) ly_1 rfl rfl (by decide) (by omega) (Nat.le_of_ble_eq_true rfl) rfl (Nat.le_refl _) (Nat.le_refl _) (c_Told_officeAt1 hn hR h1 hk hro) (m_go ?_)
  show AW _ _ _ _ _ _ _ _ [.ref o] _ _ _ _
  refine a_astore_n (lv' := [(3, .ref o), (0, .ref 0), (1, .int (nI k)), (2, .int (nI 0))]) dS_ruled_8 rfl (by decide) rfl ?_
  refine a_aload_n 0 dS_ruled_9 rfl rfl ?_
  refine a_ifnonnull (tgt := 15) dS_ruled_10 (by decide) ?_
  refine a_iload_n 3 dS_ruled_15 rfl rfl ?_
  refine a_tab (c := 0) (off := 32) (tgt := 48) dS_ruled_16 rfl (by decide) (by decide) (by decide) (by decide) ?_
  refine a_aload_n 0 dS_ruled_48 rfl rfl ?_
  refine a_callV (Q' := m_res (some (.int (nI (rcB I o nl 0 nl)))) I J R) (as := []) (st := []) dS_ruled_49 ml11_253 rfl (Nat.le_of_ble_eq_true rfl) (of_l0 ho) rfl rfl (by decide) (by omega) (Nat.le_of_ble_eq_true rfl) rfl (Nat.le_refl _) (Nat.le_refl _) (c_Office_ruledCouples hn hR ho hr hon hh hnh hl hnl hW hH) (m_go ?_)
  show AW _ _ _ _ _ _ _ _ [.int (nI (rcB I o nl 0 nl))] _ _ _ _
  exact a_iret dS_ruled_52 rfl ⟨rfl, KP.refl, (KF.refl hR)⟩
theorem q_S_ruled1 {S : Nat × (Nat → Int32)} {d n : Nat} {I : mI} {J : mJ} {R : mR} (hn : 122 ≤ n) (hR : m_fin R) {o nh nl : Nat} (ho : o ∈ m_offs) (hr : offR R o) (hon : o + 8 < n) (hh : I o 0 = nI nh) (hnh : nh ≤ 6) (hl : I o 1 = nI nl) (hnl : nl ≤ 10) (hW : WFc I o nl) (hH : WFh (I (o + 2)) nl) {k : Nat} (h1 : f_of (nI k) (I 3 0) = 1) (hk : k < 2) (hro : R 4 k = some o) (hM : WFmC I o nl)  : AW S (d + 6) YS_ruled n n (qV I R (.int (lrC I o nl (nI 0) nl))) 0 [(0, .ref 0), (1, .int (nI k)), (2, .int (nI 1))] [] I J R n := by
  refine a_aload_n 0 dS_ruled_0 rfl rfl ?_
  refine a_geta (r := 1) dS_ruled_1 fl11_10 rfl ly_0 (by omega) (rf_0_0 hR) ?_
  refine a_iload_n 1 dS_ruled_4 rfl rfl ?_
  refine a_callV (Q' := m_res (some (.ref o)) I J R) (as := [.int (nI k)]) (st := []) dS_ruled_5 ml11_101 rfl (Nat.le_of_ble_eq_true rfl) ly_1 rfl rfl (by decide) (by omega) (Nat.le_of_ble_eq_true rfl) rfl (Nat.le_refl _) (Nat.le_refl _) (c_Told_officeAt1 hn hR h1 hk hro) (m_go ?_)
  show AW _ _ _ _ _ _ _ _ [.ref o] _ _ _ _
  refine a_astore_n (lv' := [(3, .ref o), (0, .ref 0), (1, .int (nI k)), (2, .int (nI 1))]) dS_ruled_8 rfl (by decide) rfl ?_
  refine a_aload_n 0 dS_ruled_9 rfl rfl ?_
  refine a_ifnonnull (tgt := 15) dS_ruled_10 (by decide) ?_
  refine a_iload_n 3 dS_ruled_15 rfl rfl ?_
  refine a_tab (c := 1) (off := 37) (tgt := 53) dS_ruled_16 rfl (by decide) (by decide) (by decide) (by decide) ?_
  refine a_aload_n 1 dS_ruled_53 rfl rfl ?_
  refine a_geta (r := 80) dS_ruled_54 fl11_44 rfl ly_0 (by omega) (rf_0_5 hR) ?_
  refine a_aload_n 0 dS_ruled_57 rfl rfl ?_
  refine a_callV (Q' := m_res (some (.int (lrC I o nl (nI 0) nl))) I J R) (as := [.ref o]) (st := []) dS_ruled_58 ml11_257 rfl (Nat.le_of_ble_eq_true rfl) ly_80 rfl rfl (by decide) (by omega) (Nat.le_of_ble_eq_true rfl) rfl (Nat.le_refl _) (Nat.le_refl _) (c_Racks_longestRow hn hR ho hr hon hh hnh hl hnl hW hH hM) (m_go ?_)
  show AW _ _ _ _ _ _ _ _ [.int (lrC I o nl (nI 0) nl)] _ _ _ _
  exact a_iret dS_ruled_61 rfl ⟨rfl, KP.refl, (KF.refl hR)⟩
theorem q_S_ruled2 {S : Nat × (Nat → Int32)} {d n : Nat} {I : mI} {J : mJ} {R : mR} (hn : 122 ≤ n) (hR : m_fin R) {o nh nl : Nat} (ho : o ∈ m_offs) (hr : offR R o) (hon : o + 8 < n) (hh : I o 0 = nI nh) (hnh : nh ≤ 6) (hl : I o 1 = nI nl) (hnl : nl ≤ 10) (hW : WFc I o nl) (hH : WFh (I (o + 2)) nl) {k : Nat} (h1 : f_of (nI k) (I 3 0) = 1) (hk : k < 2) (hro : R 4 k = some o) (hM : WFmC I o nl) {P : Nat} (hP : 0 < P) (hP2 : P ≤ 1000) (hrp : rsC I o nl (rsC I o nl (af0 I o nl) 10) P = (rsC I o nl (af0 I o nl) 10)) (hn0 : ∀ j, 0 < j → j < P → ¬ rsC I o nl (rsC I o nl (af0 I o nl) 10) j = (rsC I o nl (af0 I o nl) 10))  : AW S (d + 6) YS_ruled n n (qV I R (.int (loC I o nl (fbC (frT I o nl (rsC I o nl (af0 I o nl) 10) P) (nI 0) nl) (nI 0) nl))) 0 [(0, .ref 0), (1, .int (nI k)), (2, .int (nI 2))] [] I J R n := by
  refine a_aload_n 0 dS_ruled_0 rfl rfl ?_
  refine a_geta (r := 1) dS_ruled_1 fl11_10 rfl ly_0 (by omega) (rf_0_0 hR) ?_
  refine a_iload_n 1 dS_ruled_4 rfl rfl ?_
  refine a_callV (Q' := m_res (some (.ref o)) I J R) (as := [.int (nI k)]) (st := []) dS_ruled_5 ml11_101 rfl (Nat.le_of_ble_eq_true rfl) ly_1 rfl rfl (by decide) (by omega) (Nat.le_of_ble_eq_true rfl) rfl (Nat.le_refl _) (Nat.le_refl _) (c_Told_officeAt1 hn hR h1 hk hro) (m_go ?_)
  show AW _ _ _ _ _ _ _ _ [.ref o] _ _ _ _
  refine a_astore_n (lv' := [(3, .ref o), (0, .ref 0), (1, .int (nI k)), (2, .int (nI 2))]) dS_ruled_8 rfl (by decide) rfl ?_
  refine a_aload_n 0 dS_ruled_9 rfl rfl ?_
  refine a_ifnonnull (tgt := 15) dS_ruled_10 (by decide) ?_
  refine a_iload_n 3 dS_ruled_15 rfl rfl ?_
  refine a_tab (c := 2) (off := 46) (tgt := 62) dS_ruled_16 rfl (by decide) (by decide) (by decide) (by decide) ?_
  refine a_aload_n 1 dS_ruled_62 rfl rfl ?_
  refine a_geta (r := 80) dS_ruled_63 fl11_44 rfl ly_0 (by omega) (rf_0_5 hR) ?_
  refine a_aload_n 0 dS_ruled_66 rfl rfl ?_
  refine a_callV (Q' := m_res (some (.int (loC I o nl (fbC (frT I o nl (rsC I o nl (af0 I o nl) 10) P) (nI 0) nl) (nI 0) nl))) (m_row I 80 (va_up (va_up (I 80) 0 (nI P)) 1 (fbC (frT I o nl (rsC I o nl (af0 I o nl) 10) P) (nI 0) nl))) J R) (as := [.ref o]) (st := []) dS_ruled_67 ml11_260 rfl (Nat.le_of_ble_eq_true rfl) ly_80 rfl rfl (by decide) (by omega) (Nat.le_of_ble_eq_true rfl) rfl (Nat.le_refl _) (Nat.le_refl _) (by have h := c_loosened (S := S) (d := d + 2) (J := J) (f := I 80) hn hR ho hr hon hh hnh hl hnl hW hH hM hP hP2 hrp hn0; rw [M80_self] at h; exact h) (m_go ?_)
  show AW _ _ _ _ _ _ _ _ [.int (loC I o nl (fbC (frT I o nl (rsC I o nl (af0 I o nl) 10) P) (nI 0) nl) (nI 0) nl)] _ _ _ _
  exact a_iret dS_ruled_70 rfl ⟨rfl, (KP.row KP.refl (by omega)), (KF.refl hR)⟩
theorem q_S_ruled3 {S : Nat × (Nat → Int32)} {d n : Nat} {I : mI} {J : mJ} {R : mR} (hn : 122 ≤ n) (hR : m_fin R) {o nh nl : Nat} (ho : o ∈ m_offs) (hr : offR R o) (hon : o + 8 < n) (hh : I o 0 = nI nh) (hnh : nh ≤ 6) (hl : I o 1 = nI nl) (hnl : nl ≤ 10) (hW : WFc I o nl) (hH : WFh (I (o + 2)) nl) {k : Nat} (h1 : f_of (nI k) (I 3 0) = 1) (hk : k < 2) (hro : R 4 k = some o)  : AW S (d + 6) YS_ruled n n (qV I R (.int (nI (tcN I o nl (0, w5 I) nh).1))) 0 [(0, .ref 0), (1, .int (nI k)), (2, .int (nI 3))] [] I J R n := by
  rw [show AW S (d + 6) YS_ruled n n (qV I R (.int (nI (tcN I o nl (0, w5 I) nh).1))) 0 [(0, .ref 0), (1, .int (nI k)), (2, .int (nI 3))] [] I J R n = AW S (d + 6) YS_ruled n n (qV I R (.int (nI (tcN I o nl (0, w5 I) nh).1))) 0 [(0, .ref 0), (1, .int (nI k)), (2, .int (nI 3))] [] (oW I (w5 I)) J R n from by rw [oW_self]]
  refine a_aload_n 0 dS_ruled_0 rfl rfl ?_
  refine a_geta (r := 1) dS_ruled_1 fl11_10 rfl ly_0 (by omega) (rf_0_0 hR) ?_
  refine a_iload_n 1 dS_ruled_4 rfl rfl ?_
  refine a_callV (Q' := m_res (some (.ref o)) (oW I (w5 I)) J R) (as := [.int (nI k)]) (st := []) dS_ruled_5 ml11_101 rfl (Nat.le_of_ble_eq_true rfl) ly_1 rfl rfl (by decide) (by omega) (Nat.le_of_ble_eq_true rfl) rfl (Nat.le_refl _) (Nat.le_refl _) (c_oaW hn hR h1 hk hro) (m_go ?_)
  show AW _ _ _ _ _ _ _ _ [.ref o] _ _ _ _
  refine a_astore_n (lv' := [(3, .ref o), (0, .ref 0), (1, .int (nI k)), (2, .int (nI 3))]) dS_ruled_8 rfl (by decide) rfl ?_
  refine a_aload_n 0 dS_ruled_9 rfl rfl ?_
  refine a_ifnonnull (tgt := 15) dS_ruled_10 (by decide) ?_
  refine a_iload_n 3 dS_ruled_15 rfl rfl ?_
  refine a_tab (c := 3) (off := 55) (tgt := 71) dS_ruled_16 rfl (by decide) (by decide) (by decide) (by decide) ?_
  refine a_aload_n 1 dS_ruled_71 rfl rfl ?_
  refine a_geta (r := 64) dS_ruled_72 fl11_37 rfl ly_0 (by omega) (rf_0_4 hR) ?_
  refine a_aload_n 0 dS_ruled_75 rfl rfl ?_
  refine a_callV (Q' := m_res (some (.int (nI (tcN I o nl (0, w5 I) nh).1))) (oW I (tcN I o nl (0, w5 I) nh).2) J R) (as := [.ref o]) (st := []) dS_ruled_76 ml11_263 rfl (Nat.le_of_ble_eq_true rfl) ly_64 rfl rfl (by decide) (by omega) (Nat.le_of_ble_eq_true rfl) rfl (Nat.le_refl _) (Nat.le_refl _) (c_touched hn hR ho hr hon hh hnh hl hnl hW hH) (m_go ?_)
  show AW _ _ _ _ _ _ _ _ [.int (nI (tcN I o nl (0, w5 I) nh).1)] _ _ _ _
  exact a_iret dS_ruled_79 rfl ⟨rfl, KP.oW (fun _ _ => rfl) (fun j hj => tcN_lo hj nh), KF.refl hR⟩
theorem q_S_ruled4 {S : Nat × (Nat → Int32)} {d n : Nat} {I : mI} {J : mJ} {R : mR} (hn : 122 ≤ n) (hR : m_fin R) {o nh nl : Nat} (ho : o ∈ m_offs) (hr : offR R o) (hon : o + 8 < n) (hh : I o 0 = nI nh) (hnh : nh ≤ 6) (hl : I o 1 = nI nl) (hnl : nl ≤ 10) (hW : WFc I o nl) (hH : WFh (I (o + 2)) nl) {k : Nat} (h1 : f_of (nI k) (I 3 0) = 1) (hk : k < 2) (hro : R 4 k = some o) {y : Int32} (hy : y.toInt < 0 ∨ 3 < y.toInt) (hy2 : f_of (y - nI 10) (nI nh) = 0)  : AW S (d + 6) YS_ruled n n (qV I R (.int (-1))) 0 [(0, .ref 0), (1, .int (nI k)), (2, .int y)] [] I J R n := by
  refine a_aload_n 0 dS_ruled_0 rfl rfl ?_
  refine a_geta (r := 1) dS_ruled_1 fl11_10 rfl ly_0 (by omega) (rf_0_0 hR) ?_
  refine a_iload_n 1 dS_ruled_4 rfl rfl ?_
  refine a_callV (Q' := m_res (some (.ref o)) I J R) (as := [.int (nI k)]) (st := []) dS_ruled_5 ml11_101 rfl (Nat.le_of_ble_eq_true rfl) ly_1 rfl rfl (by decide) (by omega) (Nat.le_of_ble_eq_true rfl) rfl (Nat.le_refl _) (Nat.le_refl _) (c_Told_officeAt1 hn hR h1 hk hro) (m_go ?_)
  show AW _ _ _ _ _ _ _ _ [.ref o] _ _ _ _
  refine a_astore_n (lv' := [(3, .ref o), (0, .ref 0), (1, .int (nI k)), (2, .int y)]) dS_ruled_8 rfl (by decide) rfl ?_
  refine a_aload_n 0 dS_ruled_9 rfl rfl ?_
  refine a_ifnonnull (tgt := 15) dS_ruled_10 (by decide) ?_
  refine a_iload_n 3 dS_ruled_15 rfl rfl ?_
  refine a_tableOut (tgt := 80) dS_ruled_16 hy (by decide) ?_
  refine a_aload_n 0 dS_ruled_80 rfl rfl ?_
  refine a_iload_n 3 dS_ruled_81 rfl rfl ?_
  refine a_bipushN (a := 10) dS_ruled_82 (by decide) ?_
  refine a_isub dS_ruled_84 ?_
  refine a_callV (Q' := m_res (some (.int (f_of (y - (nI 10)) (nI nh)))) I J R) (as := [.int (y - (nI 10))]) (st := []) dS_ruled_85 ml11_135 rfl (Nat.le_of_ble_eq_true rfl) (of_l0 ho) rfl rfl (by decide) (by omega) (Nat.le_of_ble_eq_true rfl) rfl (Nat.le_refl _) (Nat.le_refl _) (by have h := c_Office_hasHouse (S := S) (d := d + 5) (n := n) (J := J) (R := R) (I := I) (h := (y - (nI 10))) ho hr hon; rw [hh] at h; exact h) (m_go ?_)
  show AW _ _ _ _ _ _ _ _ [.int (f_of (y - (nI 10)) (nI nh))] _ _ _ _
  refine a_if_eq (tgt := 106) dS_ruled_88 (by decide) (fun _ => ?_) (fun c => False.elim (c hy2))
  refine a_iconst (v := -1) dS_ruled_106 (by decide) ?_
  exact a_iret dS_ruled_107 rfl ⟨rfl, KP.refl, (KF.refl hR)⟩
theorem q_S_ruled5 {S : Nat × (Nat → Int32)} {d n : Nat} {I : mI} {J : mJ} {R : mR} (hn : 122 ≤ n) (hR : m_fin R) {o nh nl : Nat} (ho : o ∈ m_offs) (hr : offR R o) (hon : o + 8 < n) (hh : I o 0 = nI nh) (hnh : nh ≤ 6) (hl : I o 1 = nI nl) (hnl : nl ≤ 10) (hW : WFc I o nl) (hH : WFh (I (o + 2)) nl) {k : Nat} (h1 : f_of (nI k) (I 3 0) = 1) (hk : k < 2) (hro : R 4 k = some o) {y : Int32} (hy : y.toInt < 0 ∨ 3 < y.toInt) (hy2 : ¬ f_of (y - nI 10) (nI nh) = 0) {v : Int32} (hv : ∀ v2, rkVC (raA I o nl (I 69, w5 I) nh).1 nh (y - nI 10) v2 → v2 = v) : AW S (d + 6) YS_ruled n n (qV I R (.int v)) 0 [(0, .ref 0), (1, .int (nI k)), (2, .int y)] [] I J R n := by
  have e69 : oW (m_row I 69 (I 69)) (w5 I) = I := by rw [m_row_self, oW_self]
  refine a_aload_n 0 dS_ruled_0 rfl rfl ?_
  refine a_geta (r := 1) dS_ruled_1 fl11_10 rfl ly_0 (by omega) (rf_0_0 hR) ?_
  refine a_iload_n 1 dS_ruled_4 rfl rfl ?_
  refine a_callV (Q' := m_res (some (.ref o)) I J R) (as := [.int (nI k)]) (st := []) dS_ruled_5 ml11_101 rfl (Nat.le_of_ble_eq_true rfl) ly_1 rfl rfl (by decide) (by omega) (Nat.le_of_ble_eq_true rfl) rfl (Nat.le_refl _) (Nat.le_refl _) (c_Told_officeAt1 hn hR h1 hk hro) (m_go ?_)
  show AW _ _ _ _ _ _ _ _ [.ref o] _ _ _ _
  refine a_astore_n (lv' := [(3, .ref o), (0, .ref 0), (1, .int (nI k)), (2, .int y)]) dS_ruled_8 rfl (by decide) rfl ?_
  refine a_aload_n 0 dS_ruled_9 rfl rfl ?_
  refine a_ifnonnull (tgt := 15) dS_ruled_10 (by decide) ?_
  refine a_iload_n 3 dS_ruled_15 rfl rfl ?_
  refine a_tableOut (tgt := 80) dS_ruled_16 hy (by decide) ?_
  refine a_aload_n 0 dS_ruled_80 rfl rfl ?_
  refine a_iload_n 3 dS_ruled_81 rfl rfl ?_
  refine a_bipushN (a := 10) dS_ruled_82 (by decide) ?_
  refine a_isub dS_ruled_84 ?_
  refine a_callV (Q' := m_res (some (.int (f_of (y - (nI 10)) (nI nh)))) I J R) (as := [.int (y - (nI 10))]) (st := []) dS_ruled_85 ml11_135 rfl (Nat.le_of_ble_eq_true rfl) (of_l0 ho) rfl rfl (by decide) (by omega) (Nat.le_of_ble_eq_true rfl) rfl (Nat.le_refl _) (Nat.le_refl _) (by have h := c_Office_hasHouse (S := S) (d := d + 5) (n := n) (J := J) (R := R) (I := I) (h := (y - (nI 10))) ho hr hon; rw [hh] at h; exact h) (m_go ?_)
  show AW _ _ _ _ _ _ _ _ [.int (f_of (y - (nI 10)) (nI nh))] _ _ _ _
  refine a_if_eq (tgt := 106) dS_ruled_88 (by decide) (fun c => False.elim (hy2 c)) (fun _ => ?_)
  refine a_aload_n 1 dS_ruled_91 rfl rfl ?_
  refine a_geta (r := 64) dS_ruled_92 fl11_37 rfl ly_0 (by omega) (rf_0_4 hR) ?_
  refine a_aload_n 0 dS_ruled_95 rfl rfl ?_
  refine a_iload_n 3 dS_ruled_96 rfl rfl ?_
  refine a_bipushN (a := 10) dS_ruled_97 (by decide) ?_
  refine a_isub dS_ruled_99 ?_
  refine a_callV (Q' := fun v2 I2 J2 R2 => ∃ v3, v2 = some (.int v3) ∧ rkVC (raA I o nl (I 69, w5 I) nh).1 nh (y - nI 10) v3 ∧ I2 = (oW (m_row I 69 ((raA I o nl (I 69, w5 I) nh).1)) ((raA I o nl (I 69, w5 I) nh).2)) ∧ J2 = J ∧ R2 = R) (as := [.ref o, .int (y - nI 10)]) (st := []) dS_ruled_100 ml11_266 rfl (Nat.le_of_ble_eq_true rfl) ly_64 rfl rfl (by decide) (by omega) (Nat.le_of_ble_eq_true rfl) rfl (Nat.le_refl _) (Nat.le_refl _) (by have h := b_ranked (S := S) (d := d + 1) (J := J) (R := R) (x := y - nI 10) (b := I 69) (w := w5 I) hn hR ho hr hon hh hnh hl hnl hW hH (Q := fun v2 I2 J2 R2 => ∃ v3, v2 = some (.int v3) ∧ rkVC (raA I o nl (I 69, w5 I) nh).1 nh (y - nI 10) v3 ∧ I2 = (oW (m_row I 69 ((raA I o nl (I 69, w5 I) nh).1)) ((raA I o nl (I 69, w5 I) nh).2)) ∧ J2 = J ∧ R2 = R) (fun v3 h3 => ⟨v3, rfl, h3, rfl, rfl, rfl⟩); rw [e69] at h; exact h) ?_
  intro v2 I2 J2 R2 ⟨v3, e1, h3, e2, e3, e4⟩
  subst e1
  rw [e2, e3, e4, hv v3 h3]
  show AW _ _ _ _ _ _ _ _ [.int v] _ _ _ _
  refine a_goto (tgt := 107) dS_ruled_103 (by decide) ?_
  exact a_iret dS_ruled_107 rfl ⟨rfl, KP.oW (fun a ha => m_row_ne (show a ≠ 69 by omega)) (fun j hj => raA_lo hj nh), KF.refl hR⟩
