/-- the first of the first places that is so, else 0 -/
def fpN (c : Nat → Bool) : Nat → Nat → Nat
  | 0, _ => 0
  | m + 1, k => if c k = true then k else fpN c m (k + 1)
theorem fpN_lt {c : Nat → Bool} {sz : Nat} (h0 : 0 < sz) : ∀ m k, k + m = sz → fpN c m k < sz := by
  intro m
  induction m with
  | zero => intro k _; exact h0
  | succ m ih =>
    intro k hk
    unfold fpN
    split
    · omega
    · exact ih (k + 1) (by omega)
def fpC (w : r5) (t a i : Nat) : Bool := decide (¬ f_has (nI t) (nI i) = 0 ∧ w.2.2.2.1 (5 * i + a) + w.2.2.2.2 (5 * rmN t i + hmN w.2.2.1 i) = w.2.2.2.2 (5 * t + a))
theorem l_firstPlace {S : Nat × (Nat → Int32)} {d n : Nat} {I : mI} {J : mJ} {R : mR} (hn : 122 ≤ n) (hR : m_fin R) {w : r5} {sz t a : Nat} (hs2 : w.1 2 = nI sz) (hsz : sz ≤ 10) (ht : t < 1024) (ha : a < 5) (hk4 : ∀ i, i < sz → w.2.2.1 i = nI (hmN w.2.2.1 i) ∧ hmN w.2.2.1 i < 4) {Q : Option Value → mI → mJ → mR → Prop} : ∀ m k, k + m = sz → Q (some (.int (nI (fpN (fpC w t a) m k)))) (oW I w) J R → AW S d YOrders_firstPlace n n Q 2 [(3, .int (nI k)), (0, .ref 64), (1, .int (nI t)), (2, .int (nI a))] [] (oW I w) J R n := by
  intro m
  induction m with
  | zero =>
    intro k hk9 hQ
    rw [show k = sz by omega]
    refine a_iload_n 0 dOrders_firstPlace_2 rfl rfl ?_
    refine a_aload_n 1 dOrders_firstPlace_3 rfl rfl ?_
    refine a_geti dOrders_firstPlace_4 fl5_37 rfl ly_64 (by omega) ?_
    rw [show (oW I w) 64 2 = (nI sz) from hs2]
    refine a_icmp_geN (tgt := 76) dOrders_firstPlace_7 (by decide) (by omega) (by omega) (fun _ => ?_) (fun c => False.elim (by omega))
    refine a_iconstN (a := 0) dOrders_firstPlace_76 (by decide) ?_
    exact a_iret dOrders_firstPlace_77 rfl hQ
  | succ m ih =>
    intro k hk9 hQ
    have hrm := rm_1024 (t := t) (l := k) (by omega) ht
    have hk5 := (hk4 k (by omega)).2
    refine a_iload_n 0 dOrders_firstPlace_2 rfl rfl ?_
    refine a_aload_n 1 dOrders_firstPlace_3 rfl rfl ?_
    refine a_geti dOrders_firstPlace_4 fl5_37 rfl ly_64 (by omega) ?_
    rw [show (oW I w) 64 2 = (nI sz) from hs2]
    refine a_icmp_geN (tgt := 76) dOrders_firstPlace_7 (by decide) (by omega) (by omega) (fun c => False.elim (by omega)) (fun _ => ?_)
    by_cases hs : f_has (nI t) (nI k) = 0
    · refine a_iload_n 2 dOrders_firstPlace_10 rfl rfl ?_
      refine a_iload_n 0 dOrders_firstPlace_11 rfl rfl ?_
      refine a_ishr dOrders_firstPlace_12 ?_
      refine a_iconstN (a := 1) dOrders_firstPlace_13 (by decide) ?_
      refine a_iand dOrders_firstPlace_14 ?_
      refine a_iconstN (a := 1) dOrders_firstPlace_15 (by decide) ?_
      refine a_icmp_ne (tgt := 70) dOrders_firstPlace_16 (by decide) (fun _ => ?_) (fun c => False.elim (has_1 c hs))
      refine a_iincN (lv' := [(3, .int (nI (k + 1))), (0, .ref 64), (1, .int (nI t)), (2, .int (nI a))]) (j := 0) dOrders_firstPlace_70 rfl (by decide) rfl ?_
      refine a_goto (tgt := 2) dOrders_firstPlace_73 (by decide) ?_
      refine a_locs (lv' := [(3, .int (nI (k + 1))), (0, .ref 64), (1, .int (nI t)), (2, .int (nI a))]) [0, 1, 2, 3] rfl ?_
      exact ih (k + 1) (by omega) (by unfold fpN at hQ; rw [if_neg (show ¬ fpC w t a k = true from fun q => by unfold fpC at q; have q2 := of_decide_eq_true q; exact q2.1 hs)] at hQ; exact hQ)
    · refine a_iload_n 2 dOrders_firstPlace_10 rfl rfl ?_
      refine a_iload_n 0 dOrders_firstPlace_11 rfl rfl ?_
      refine a_ishr dOrders_firstPlace_12 ?_
      refine a_iconstN (a := 1) dOrders_firstPlace_13 (by decide) ?_
      refine a_iand dOrders_firstPlace_14 ?_
      refine a_iconstN (a := 1) dOrders_firstPlace_15 (by decide) ?_
      refine a_icmp_ne (tgt := 70) dOrders_firstPlace_16 (by decide) (fun c => False.elim (hs (has_0 c))) (fun _ => ?_)
      refine a_aload_n 1 dOrders_firstPlace_19 rfl rfl ?_
      refine a_geta (r := 68) dOrders_firstPlace_20 fl5_21 rfl ly_64 (by omega) (rf_64_6 hR) ?_
      refine a_iconstN (a := 5) dOrders_firstPlace_23 (by decide) ?_
      refine a_iload_n 2 dOrders_firstPlace_24 rfl rfl ?_
      refine a_iconstN (a := 1) dOrders_firstPlace_25 (by decide) ?_
      refine a_iload_n 0 dOrders_firstPlace_26 rfl rfl ?_
      refine a_ishl dOrders_firstPlace_27 ?_
      refine a_iconst (v := -1) dOrders_firstPlace_28 (by decide) ?_
      refine a_ixor dOrders_firstPlace_29 ?_
      refine a_iand dOrders_firstPlace_30 ?_
      rw [show ((nI t) &&& (((nI 1) <<< ((nI k) &&& 31)) ^^^ (-1))) = (nI (rmN t k)) from (rm_nI t k)]
      refine a_imulN (a := 5) (b := (rmN t k)) dOrders_firstPlace_31 ?_
      refine a_aload_n 1 dOrders_firstPlace_32 rfl rfl ?_
      refine a_geta (r := 66) dOrders_firstPlace_33 fl5_15 rfl ly_64 (by omega) (rf_64_4 hR) ?_
      refine a_iload_n 0 dOrders_firstPlace_36 rfl rfl ?_
      refine a_ialdN (a := k) dOrders_firstPlace_37 ly_66 (by omega) (by omega) (by decide) ?_
      rw [show (oW I w) 66 k = w.2.2.1 k from rfl]
      rw [show (w.2.2.1 k) = (nI (hmN w.2.2.1 k)) from (hk4 k (by omega)).1]
      refine a_iaddN (a := (5 * (rmN t k))) (b := (hmN w.2.2.1 k)) dOrders_firstPlace_38 ?_
      refine a_ialdN (a := ((5 * (rmN t k)) + (hmN w.2.2.1 k))) dOrders_firstPlace_39 ly_68 (by omega) (by omega) (by decide) ?_
      rw [show (oW I w) 68 ((5 * (rmN t k)) + (hmN w.2.2.1 k)) = w.2.2.2.2 ((5 * (rmN t k)) + (hmN w.2.2.1 k)) from rfl]
      refine a_istore (lv' := [(4, .int (w.2.2.2.2 ((5 * (rmN t k)) + (hmN w.2.2.1 k)))), (3, .int (nI k)), (0, .ref 64), (1, .int (nI t)), (2, .int (nI a))]) dOrders_firstPlace_40 (by decide) rfl ?_
      refine a_aload_n 2 dOrders_firstPlace_42 rfl rfl ?_
      refine a_geta (r := 67) dOrders_firstPlace_43 fl5_18 rfl ly_64 (by omega) (rf_64_5 hR) ?_
      refine a_iconstN (a := 5) dOrders_firstPlace_46 (by decide) ?_
      refine a_iload_n 1 dOrders_firstPlace_47 rfl rfl ?_
      refine a_imulN (a := 5) (b := k) dOrders_firstPlace_48 ?_
      refine a_iload_n 4 dOrders_firstPlace_49 rfl rfl ?_
      refine a_iaddN (a := (5 * k)) (b := a) dOrders_firstPlace_50 ?_
      refine a_ialdN (a := ((5 * k) + a)) dOrders_firstPlace_51 ly_67 (by omega) (by omega) (by decide) ?_
      rw [show (oW I w) 67 ((5 * k) + a) = w.2.2.2.1 ((5 * k) + a) from rfl]
      refine a_iload 0 dOrders_firstPlace_52 rfl ?_
      refine a_iadd dOrders_firstPlace_54 ?_
      refine a_aload_n 2 dOrders_firstPlace_55 rfl rfl ?_
      refine a_geta (r := 68) dOrders_firstPlace_56 fl5_21 rfl ly_64 (by omega) (rf_64_6 hR) ?_
      refine a_iconstN (a := 5) dOrders_firstPlace_59 (by decide) ?_
      refine a_iload_n 3 dOrders_firstPlace_60 rfl rfl ?_
      refine a_imulN (a := 5) (b := t) dOrders_firstPlace_61 ?_
      refine a_iload_n 4 dOrders_firstPlace_62 rfl rfl ?_
      refine a_iaddN (a := (5 * t)) (b := a) dOrders_firstPlace_63 ?_
      refine a_ialdN (a := ((5 * t) + a)) dOrders_firstPlace_64 ly_68 (by omega) (by omega) (by decide) ?_
      rw [show (oW I w) 68 ((5 * t) + a) = w.2.2.2.2 ((5 * t) + a) from rfl]
      refine a_icmp_ne (tgt := 70) dOrders_firstPlace_65 (by decide) (fun c65 => ?_) (fun c65 => ?_)
      · refine a_iincN (lv' := [(3, .int (nI (k + 1))), (4, .int (w.2.2.2.2 ((5 * (rmN t k)) + (hmN w.2.2.1 k)))), (0, .ref 64), (1, .int (nI t)), (2, .int (nI a))]) (j := 1) dOrders_firstPlace_70 rfl (by decide) rfl ?_
        refine a_goto (tgt := 2) dOrders_firstPlace_73 (by decide) ?_
        refine a_locs (lv' := [(3, .int (nI (k + 1))), (0, .ref 64), (1, .int (nI t)), (2, .int (nI a))]) [0, 2, 3, 4] rfl ?_
        exact ih (k + 1) (by omega) (by unfold fpN at hQ; rw [if_neg (show ¬ fpC w t a k = true from fun q => by unfold fpC at q; have q2 := of_decide_eq_true q; exact c65 q2.2)] at hQ; exact hQ)
      · refine a_iload_n 1 dOrders_firstPlace_68 rfl rfl ?_
        exact a_iret dOrders_firstPlace_69 rfl (by unfold fpN at hQ; rw [if_pos (show fpC w t a k = true from decide_eq_true ⟨hs, c65⟩)] at hQ; exact hQ)
theorem c_firstPlace {S : Nat × (Nat → Int32)} {d n : Nat} {I : mI} {J : mJ} {R : mR} (hn : 122 ≤ n) (hR : m_fin R) {w : r5} {sz t a : Nat} (hs2 : w.1 2 = nI sz) (hsz : sz ≤ 10) (ht : t < 1024) (ha : a < 5) (hk4 : ∀ i, i < sz → w.2.2.1 i = nI (hmN w.2.2.1 i) ∧ hmN w.2.2.1 i < 4)  : RUN S d YOrders_firstPlace [.ref 64, .int (nI t), .int (nI a)] (oW I w) J R n (some (.int (nI (fpN (fpC w t a) sz 0)))) (oW I w) J R n := by
  show AW S _ YOrders_firstPlace n n _ 0 [(0, .ref 64), (1, .int (nI t)), (2, .int (nI a))] [] (oW I w) J R n
  refine a_iconstN (a := 0) dOrders_firstPlace_0 (by decide) ?_
  refine a_istore_n (lv' := [(3, .int (nI 0)), (0, .ref 64), (1, .int (nI t)), (2, .int (nI a))]) dOrders_firstPlace_1 rfl (by decide) rfl ?_
  refine a_locs (lv' := [(3, .int (nI 0)), (0, .ref 64), (1, .int (nI t)), (2, .int (nI a))]) [0, 1, 2, 3] rfl ?_
  exact l_firstPlace hn hR hs2 hsz ht ha hk4 sz 0 (by omega) ⟨rfl, rfl, rfl, rfl⟩
def laNS (w : r5) (sz : Nat) (k : Nat) (s : Nat × Nat) : Nat × Nat := ((rmN s.1 (fpN (fpC w s.1 s.2) sz 0)), (hmN w.2.2.1 (fpN (fpC w s.1 s.2) sz 0)))
def laN (w : r5) (sz : Nat) (s0 : Nat × Nat) : Nat → Nat × Nat
  | 0 => s0
  | k + 1 => laNS w sz k (laN w sz s0 k)
theorem l_laN {S : Nat × (Nat → Int32)} {d n : Nat} {I : mI} {J : mJ} {R : mR} (hn : 122 ≤ n) (hR : m_fin R) {w : r5} {sz : Nat} (hs2 : w.1 2 = nI sz) (hsz : sz ≤ 10) (hk4 : ∀ i, i < sz → w.2.2.1 i = nI (hmN w.2.2.1 i) ∧ hmN w.2.2.1 i < 4) {K : Nat} (hK : K < sz)  {s0 : Nat × Nat} {Q : Option Value → mI → mJ → mR → Prop} (hI : ∀ k, (laN w sz s0 k).1 < 1024 ∧ (laN w sz s0 k).2 < 5) (hx : AW S (d + 1) YOrders_letterAt n n Q 14 [(4, .int (nI K)), (0, .ref 64), (1, .int (nI K)), (2, .int (nI (laN w sz s0 K).1)), (3, .int (nI (laN w sz s0 K).2))] [] (oW I w) J R n) : ∀ m k, k + m = K → ∀ s : Nat × Nat, laN w sz s0 k = s → AW S (d + 1) YOrders_letterAt n n Q 14 [(4, .int (nI k)), (0, .ref 64), (1, .int (nI K)), (2, .int (nI s.1)), (3, .int (nI s.2))] [] (oW I w) J R n := by
  intro m
  induction m with
  | zero =>
    intro k hk9 s es
    rw [show k = K by omega] at es ⊢
    subst es
    exact hx
  | succ m ih =>
    intro k hk9 s es
    have hpl : (fpN (fpC w s.1 s.2) sz 0) < sz := fpN_lt (by omega) sz 0 (by omega)
    have hi9 := hI k
    rw [es] at hi9
    refine a_iload 0 dOrders_letterAt_14 rfl ?_
    refine a_aload_n 1 dOrders_letterAt_16 rfl rfl ?_
    refine a_geti dOrders_letterAt_17 fl5_37 rfl ly_64 (by omega) ?_
    rw [show (oW I w) 64 2 = (nI sz) from hs2]
    refine a_icmp_geN (tgt := 68) dOrders_letterAt_20 (by decide) (by omega) (by omega) (fun c => False.elim (by omega)) (fun _ => ?_)
    refine a_aload_n 1 dOrders_letterAt_23 rfl rfl ?_
    refine a_iload_n 3 dOrders_letterAt_24 rfl rfl ?_
    refine a_iload_n 4 dOrders_letterAt_25 rfl rfl ?_
    refine a_callV (Q' := m_res (some (.int (nI (fpN (fpC w s.1 s.2) sz 0)))) (oW I w) J R) (as := [.int (nI s.1), .int (nI s.2)]) (st := []) dOrders_letterAt_26 ml5_63 rfl (Nat.le_of_ble_eq_true rfl) ly_64 rfl rfl (by decide) (by omega) (Nat.le_of_ble_eq_true rfl) rfl (Nat.le_refl _) (Nat.le_refl _) (c_firstPlace hn hR hs2 hsz (by omega) (by omega) hk4) (m_go ?_)
    show AW _ _ _ _ _ _ _ _ [.int (nI (fpN (fpC w s.1 s.2) sz 0))] _ _ _ _
    refine a_istore (lv' := [(5, .int (nI (fpN (fpC w s.1 s.2) sz 0))), (4, .int (nI k)), (0, .ref 64), (1, .int (nI K)), (2, .int (nI s.1)), (3, .int (nI s.2))]) dOrders_letterAt_29 (by decide) rfl ?_
    refine a_iload 1 dOrders_letterAt_31 rfl ?_
    refine a_iload_n 3 dOrders_letterAt_33 rfl rfl ?_
    refine a_icmp_neN (tgt := 45) dOrders_letterAt_34 (by decide) (by omega) (by omega) (fun _ => ?_) (fun c => False.elim (by omega))
    refine a_iload_n 4 dOrders_letterAt_45 rfl rfl ?_
    refine a_iconstN (a := 1) dOrders_letterAt_46 (by decide) ?_
    refine a_iload 0 dOrders_letterAt_47 rfl ?_
    refine a_ishl dOrders_letterAt_49 ?_
    refine a_iconst (v := -1) dOrders_letterAt_50 (by decide) ?_
    refine a_ixor dOrders_letterAt_51 ?_
    refine a_iand dOrders_letterAt_52 ?_
    rw [show ((nI s.1) &&& (((nI 1) <<< ((nI (fpN (fpC w s.1 s.2) sz 0)) &&& 31)) ^^^ (-1))) = (nI (rmN s.1 (fpN (fpC w s.1 s.2) sz 0))) from (rm_nI s.1 (fpN (fpC w s.1 s.2) sz 0))]
    refine a_istore_n (lv' := [(2, .int (nI (rmN s.1 (fpN (fpC w s.1 s.2) sz 0)))), (5, .int (nI (fpN (fpC w s.1 s.2) sz 0))), (4, .int (nI k)), (0, .ref 64), (1, .int (nI K)), (3, .int (nI s.2))]) dOrders_letterAt_53 rfl (by decide) rfl ?_
    refine a_aload_n 3 dOrders_letterAt_54 rfl rfl ?_
    refine a_geta (r := 66) dOrders_letterAt_55 fl5_15 rfl ly_64 (by omega) (rf_64_4 hR) ?_
    refine a_iload 1 dOrders_letterAt_58 rfl ?_
    refine a_ialdN (a := (fpN (fpC w s.1 s.2) sz 0)) dOrders_letterAt_60 ly_66 (by omega) (by omega) (by decide) ?_
    rw [show (oW I w) 66 (fpN (fpC w s.1 s.2) sz 0) = w.2.2.1 (fpN (fpC w s.1 s.2) sz 0) from rfl]
    rw [show (w.2.2.1 (fpN (fpC w s.1 s.2) sz 0)) = (nI (hmN w.2.2.1 (fpN (fpC w s.1 s.2) sz 0))) from (hk4 (fpN (fpC w s.1 s.2) sz 0) hpl).1]
    refine a_istore_n (lv' := [(3, .int (nI (hmN w.2.2.1 (fpN (fpC w s.1 s.2) sz 0)))), (2, .int (nI (rmN s.1 (fpN (fpC w s.1 s.2) sz 0)))), (5, .int (nI (fpN (fpC w s.1 s.2) sz 0))), (4, .int (nI k)), (0, .ref 64), (1, .int (nI K))]) dOrders_letterAt_61 rfl (by decide) rfl ?_
    refine a_iincN (lv' := [(4, .int (nI (k + 1))), (3, .int (nI (hmN w.2.2.1 (fpN (fpC w s.1 s.2) sz 0)))), (2, .int (nI (rmN s.1 (fpN (fpC w s.1 s.2) sz 0)))), (5, .int (nI (fpN (fpC w s.1 s.2) sz 0))), (0, .ref 64), (1, .int (nI K))]) (j := 3) dOrders_letterAt_62 rfl (by decide) rfl ?_
    refine a_goto (tgt := 14) dOrders_letterAt_65 (by decide) ?_
    have ez9 : laN w sz s0 (k + 1) = ((rmN s.1 (fpN (fpC w s.1 s.2) sz 0)), (hmN w.2.2.1 (fpN (fpC w s.1 s.2) sz 0))) := by
      show laNS w sz k (laN w sz s0 k) = _
      rw [es]
      unfold laNS
      rfl
    refine a_locs (lv' := [(4, .int (nI (k + 1))), (0, .ref 64), (1, .int (nI K)), (2, .int (nI (rmN s.1 (fpN (fpC w s.1 s.2) sz 0)))), (3, .int (nI (hmN w.2.2.1 (fpN (fpC w s.1 s.2) sz 0))))]) [0, 4, 5, 2, 1] rfl ?_
    exact ih (k + 1) (by omega) ((rmN s.1 (fpN (fpC w s.1 s.2) sz 0)), (hmN w.2.2.1 (fpN (fpC w s.1 s.2) sz 0))) ez9
theorem l_laX {S : Nat × (Nat → Int32)} {d n : Nat} {I : mI} {J : mJ} {R : mR} (hn : 122 ≤ n) (hR : m_fin R) {w : r5} {sz : Nat} (hs2 : w.1 2 = nI sz) (hsz : sz ≤ 10) (hk4 : ∀ i, i < sz → w.2.2.1 i = nI (hmN w.2.2.1 i) ∧ hmN w.2.2.1 i < 4) {K : Nat} (hK : sz ≤ K) (hK2 : K < 2 ^ 31) {s0 : Nat × Nat}   {Q : Option Value → mI → mJ → mR → Prop} (hI : ∀ k, (laN w sz s0 k).1 < 1024 ∧ (laN w sz s0 k).2 < 5) (hx : AW S (d + 1) YOrders_letterAt n n Q 68 [(4, .int (nI sz)), (0, .ref 64), (1, .int (nI K)), (2, .int (nI (laN w sz s0 sz).1)), (3, .int (nI (laN w sz s0 sz).2))] [] (oW I w) J R n) : ∀ m k, k + m = sz → ∀ s : Nat × Nat, laN w sz s0 k = s → AW S (d + 1) YOrders_letterAt n n Q 14 [(4, .int (nI k)), (0, .ref 64), (1, .int (nI K)), (2, .int (nI s.1)), (3, .int (nI s.2))] [] (oW I w) J R n := by
  intro m
  induction m with
  | zero =>
    intro k hk9 s es
    rw [show k = sz by omega] at es ⊢
    subst es
    refine a_iload 0 dOrders_letterAt_14 rfl ?_
    refine a_aload_n 1 dOrders_letterAt_16 rfl rfl ?_
    refine a_geti dOrders_letterAt_17 fl5_37 rfl ly_64 (by omega) ?_
    rw [show (oW I w) 64 2 = (nI sz) from hs2]
    refine a_icmp_geN (tgt := 68) dOrders_letterAt_20 (by decide) (by omega) (by omega) (fun _ => ?_) (fun c => False.elim (by omega))
    exact hx
  | succ m ih =>
    intro k hk9 s es
    have hpl : (fpN (fpC w s.1 s.2) sz 0) < sz := fpN_lt (by omega) sz 0 (by omega)
    have hi9 := hI k
    rw [es] at hi9
    refine a_iload 0 dOrders_letterAt_14 rfl ?_
    refine a_aload_n 1 dOrders_letterAt_16 rfl rfl ?_
    refine a_geti dOrders_letterAt_17 fl5_37 rfl ly_64 (by omega) ?_
    rw [show (oW I w) 64 2 = (nI sz) from hs2]
    refine a_icmp_geN (tgt := 68) dOrders_letterAt_20 (by decide) (by omega) (by omega) (fun c => False.elim (by omega)) (fun _ => ?_)
    refine a_aload_n 1 dOrders_letterAt_23 rfl rfl ?_
    refine a_iload_n 3 dOrders_letterAt_24 rfl rfl ?_
    refine a_iload_n 4 dOrders_letterAt_25 rfl rfl ?_
    refine a_callV (Q' := m_res (some (.int (nI (fpN (fpC w s.1 s.2) sz 0)))) (oW I w) J R) (as := [.int (nI s.1), .int (nI s.2)]) (st := []) dOrders_letterAt_26 ml5_63 rfl (Nat.le_of_ble_eq_true rfl) ly_64 rfl rfl (by decide) (by omega) (Nat.le_of_ble_eq_true rfl) rfl (Nat.le_refl _) (Nat.le_refl _) (c_firstPlace hn hR hs2 hsz (by omega) (by omega) hk4) (m_go ?_)
    show AW _ _ _ _ _ _ _ _ [.int (nI (fpN (fpC w s.1 s.2) sz 0))] _ _ _ _
    refine a_istore (lv' := [(5, .int (nI (fpN (fpC w s.1 s.2) sz 0))), (4, .int (nI k)), (0, .ref 64), (1, .int (nI K)), (2, .int (nI s.1)), (3, .int (nI s.2))]) dOrders_letterAt_29 (by decide) rfl ?_
    refine a_iload 1 dOrders_letterAt_31 rfl ?_
    refine a_iload_n 3 dOrders_letterAt_33 rfl rfl ?_
    refine a_icmp_neN (tgt := 45) dOrders_letterAt_34 (by decide) (by omega) (by omega) (fun _ => ?_) (fun c => False.elim (by omega))
    refine a_iload_n 4 dOrders_letterAt_45 rfl rfl ?_
    refine a_iconstN (a := 1) dOrders_letterAt_46 (by decide) ?_
    refine a_iload 0 dOrders_letterAt_47 rfl ?_
    refine a_ishl dOrders_letterAt_49 ?_
    refine a_iconst (v := -1) dOrders_letterAt_50 (by decide) ?_
    refine a_ixor dOrders_letterAt_51 ?_
    refine a_iand dOrders_letterAt_52 ?_
    rw [show ((nI s.1) &&& (((nI 1) <<< ((nI (fpN (fpC w s.1 s.2) sz 0)) &&& 31)) ^^^ (-1))) = (nI (rmN s.1 (fpN (fpC w s.1 s.2) sz 0))) from (rm_nI s.1 (fpN (fpC w s.1 s.2) sz 0))]
    refine a_istore_n (lv' := [(2, .int (nI (rmN s.1 (fpN (fpC w s.1 s.2) sz 0)))), (5, .int (nI (fpN (fpC w s.1 s.2) sz 0))), (4, .int (nI k)), (0, .ref 64), (1, .int (nI K)), (3, .int (nI s.2))]) dOrders_letterAt_53 rfl (by decide) rfl ?_
    refine a_aload_n 3 dOrders_letterAt_54 rfl rfl ?_
    refine a_geta (r := 66) dOrders_letterAt_55 fl5_15 rfl ly_64 (by omega) (rf_64_4 hR) ?_
    refine a_iload 1 dOrders_letterAt_58 rfl ?_
    refine a_ialdN (a := (fpN (fpC w s.1 s.2) sz 0)) dOrders_letterAt_60 ly_66 (by omega) (by omega) (by decide) ?_
    rw [show (oW I w) 66 (fpN (fpC w s.1 s.2) sz 0) = w.2.2.1 (fpN (fpC w s.1 s.2) sz 0) from rfl]
    rw [show (w.2.2.1 (fpN (fpC w s.1 s.2) sz 0)) = (nI (hmN w.2.2.1 (fpN (fpC w s.1 s.2) sz 0))) from (hk4 (fpN (fpC w s.1 s.2) sz 0) hpl).1]
    refine a_istore_n (lv' := [(3, .int (nI (hmN w.2.2.1 (fpN (fpC w s.1 s.2) sz 0)))), (2, .int (nI (rmN s.1 (fpN (fpC w s.1 s.2) sz 0)))), (5, .int (nI (fpN (fpC w s.1 s.2) sz 0))), (4, .int (nI k)), (0, .ref 64), (1, .int (nI K))]) dOrders_letterAt_61 rfl (by decide) rfl ?_
    refine a_iincN (lv' := [(4, .int (nI (k + 1))), (3, .int (nI (hmN w.2.2.1 (fpN (fpC w s.1 s.2) sz 0)))), (2, .int (nI (rmN s.1 (fpN (fpC w s.1 s.2) sz 0)))), (5, .int (nI (fpN (fpC w s.1 s.2) sz 0))), (0, .ref 64), (1, .int (nI K))]) (j := 3) dOrders_letterAt_62 rfl (by decide) rfl ?_
    refine a_goto (tgt := 14) dOrders_letterAt_65 (by decide) ?_
    have ez9 : laN w sz s0 (k + 1) = ((rmN s.1 (fpN (fpC w s.1 s.2) sz 0)), (hmN w.2.2.1 (fpN (fpC w s.1 s.2) sz 0))) := by
      unfold laN laNS
      rw [es]
    refine a_locs (lv' := [(4, .int (nI (k + 1))), (0, .ref 64), (1, .int (nI K)), (2, .int (nI (rmN s.1 (fpN (fpC w s.1 s.2) sz 0)))), (3, .int (nI (hmN w.2.2.1 (fpN (fpC w s.1 s.2) sz 0))))]) [0, 4, 5, 2, 1] rfl ?_
    exact ih (k + 1) (by omega) ((rmN s.1 (fpN (fpC w s.1 s.2) sz 0)), (hmN w.2.2.1 (fpN (fpC w s.1 s.2) sz 0))) ez9
theorem laN_ok {w : r5} {sz : Nat} (hsz : sz ≤ 10) (hk4 : ∀ i, i < sz → w.2.2.1 i = nI (hmN w.2.2.1 i) ∧ hmN w.2.2.1 i < 4) {s0 : Nat × Nat} (h0 : s0.1 < 1024 ∧ s0.2 < 5) (h1 : 0 < sz) : ∀ k, (laN w sz s0 k).1 < 1024 ∧ (laN w sz s0 k).2 < 5 := by
  intro k
  induction k with
  | zero => exact h0
  | succ k ih =>
    have e : laN w sz s0 (k + 1) = laNS w sz k (laN w sz s0 k) := rfl
    rw [e]
    generalize laN w sz s0 k = s at ih ⊢
    unfold laNS
    have hpl : fpN (fpC w s.1 s.2) sz 0 < sz := fpN_lt h1 sz 0 (by omega)
    exact ⟨rm_1024 (by omega) ih.1, Nat.lt_trans (hk4 _ hpl).2 (by decide)⟩
/-- the K-th letter of the first best order -/
def laR (w : r5) (sz K : Nat) : Int32 := if K < sz then w.2.1 (fpN (fpC w (laN w sz (2 ^ sz - 1, 4) K).1 (laN w sz (2 ^ sz - 1, 4) K).2) sz 0) else -1000
theorem c_letterAt {S : Nat × (Nat → Int32)} {d n : Nat} {I : mI} {J : mJ} {R : mR} (hn : 122 ≤ n) (hR : m_fin R) {w : r5} {sz : Nat} (hs2 : w.1 2 = nI sz) (hsz : sz ≤ 10) (hk4 : ∀ i, i < sz → w.2.2.1 i = nI (hmN w.2.2.1 i) ∧ hmN w.2.2.1 i < 4) {K : Nat} (hK : K < 2 ^ 31)  : RUN S (d + 1) YOrders_letterAt [.ref 64, .int (nI K)] (oW I w) J R n (some (.int (laR w sz K))) (oW I w) J R n := by
  show AW S _ YOrders_letterAt n n _ 0 [(0, .ref 64), (1, .int (nI K))] [] (oW I w) J R n
  obtain ⟨P, hP⟩ : ∃ P, 2 ^ sz = P := ⟨_, rfl⟩
  have hP2 := P_le hP hsz
  have hP1 : 1 ≤ P := by rw [← hP]; exact Nat.pow_pos (by decide)
  refine a_iconstN (a := 1) dOrders_letterAt_0 (by decide) ?_
  refine a_aload_n 0 dOrders_letterAt_1 rfl rfl ?_
  refine a_geti dOrders_letterAt_2 fl5_37 rfl ly_64 (by omega) ?_
  rw [show (oW I w) 64 2 = (nI sz) from hs2]
  refine a_ishl dOrders_letterAt_5 ?_
  rw [show ((nI 1) <<< ((nI sz) &&& 31)) = (nI P) from (shl_P hP hsz)]
  refine a_iconstN (a := 1) dOrders_letterAt_6 (by decide) ?_
  refine a_isubN dOrders_letterAt_7 hP1 ?_
  refine a_istore_n (lv' := [(2, .int (nI (P - 1))), (0, .ref 64), (1, .int (nI K))]) dOrders_letterAt_8 rfl (by decide) rfl ?_
  refine a_iconstN (a := 4) dOrders_letterAt_9 (by decide) ?_
  refine a_istore_n (lv' := [(3, .int (nI 4)), (2, .int (nI (P - 1))), (0, .ref 64), (1, .int (nI K))]) dOrders_letterAt_10 rfl (by decide) rfl ?_
  refine a_iconstN (a := 0) dOrders_letterAt_11 (by decide) ?_
  refine a_istore (lv' := [(4, .int (nI 0)), (3, .int (nI 4)), (2, .int (nI (P - 1))), (0, .ref 64), (1, .int (nI K))]) dOrders_letterAt_12 (by decide) rfl ?_
  by_cases hKs : K < sz
  · have hI := laN_ok hsz hk4 (s0 := (P - 1, 4)) ⟨by show P - 1 < 1024; omega, by show 4 < 5; decide⟩ (by omega)
    have hi9 := hI K
    refine a_locs (lv' := [(4, .int (nI 0)), (0, .ref 64), (1, .int (nI K)), (2, .int (nI (P - 1))), (3, .int (nI 4))]) [0, 3, 4, 2, 1] rfl ?_
    refine l_laN (s0 := (P - 1, 4)) hn hR hs2 hsz hk4 (K := K) hKs hI ?_ K 0 (by omega) _ rfl
    refine a_iload 0 dOrders_letterAt_14 rfl ?_
    refine a_aload_n 1 dOrders_letterAt_16 rfl rfl ?_
    refine a_geti dOrders_letterAt_17 fl5_37 rfl ly_64 (by omega) ?_
    rw [show (oW I w) 64 2 = (nI sz) from hs2]
    refine a_icmp_geN (tgt := 68) dOrders_letterAt_20 (by decide) (by omega) (by omega) (fun c => False.elim (by omega)) (fun _ => ?_)
    refine a_aload_n 1 dOrders_letterAt_23 rfl rfl ?_
    refine a_iload_n 3 dOrders_letterAt_24 rfl rfl ?_
    refine a_iload_n 4 dOrders_letterAt_25 rfl rfl ?_
    refine a_callV (Q' := m_res (some (.int (nI (fpN (fpC w ((laN w sz (P - 1, 4) K).1) ((laN w sz (P - 1, 4) K).2)) sz 0)))) (oW I w) J R) (as := [.int (nI (laN w sz (P - 1, 4) K).1), .int (nI (laN w sz (P - 1, 4) K).2)]) (st := []) dOrders_letterAt_26 ml5_63 rfl (Nat.le_of_ble_eq_true rfl) ly_64 rfl rfl (by decide) (by omega) (Nat.le_of_ble_eq_true rfl) rfl (Nat.le_refl _) (Nat.le_refl _) (c_firstPlace hn hR hs2 hsz (by omega) (by omega) hk4) (m_go ?_)
    show AW _ _ _ _ _ _ _ _ [.int (nI (fpN (fpC w ((laN w sz (P - 1, 4) K).1) ((laN w sz (P - 1, 4) K).2)) sz 0))] _ _ _ _
    refine a_istore (lv' := [(5, .int (nI (fpN (fpC w ((laN w sz (P - 1, 4) K).1) ((laN w sz (P - 1, 4) K).2)) sz 0))), (4, .int (nI K)), (0, .ref 64), (1, .int (nI K)), (2, .int (nI (laN w sz (P - 1, 4) K).1)), (3, .int (nI (laN w sz (P - 1, 4) K).2))]) dOrders_letterAt_29 (by decide) rfl ?_
    refine a_iload 1 dOrders_letterAt_31 rfl ?_
    refine a_iload_n 3 dOrders_letterAt_33 rfl rfl ?_
    refine a_icmp_neN (tgt := 45) dOrders_letterAt_34 (by decide) (by omega) (by omega) (fun c => False.elim (by omega)) (fun _ => ?_)
    refine a_aload_n 2 dOrders_letterAt_37 rfl rfl ?_
    refine a_geta (r := 65) dOrders_letterAt_38 fl5_9 rfl ly_64 (by omega) (rf_64_3 hR) ?_
    refine a_iload 0 dOrders_letterAt_41 rfl ?_
    refine a_ialdN (a := (fpN (fpC w ((laN w sz (P - 1, 4) K).1) ((laN w sz (P - 1, 4) K).2)) sz 0)) dOrders_letterAt_43 ly_65 (by omega) (by have := fpN_lt (c := fpC w (laN w sz (P - 1, 4) K).1 (laN w sz (P - 1, 4) K).2) (show 0 < sz by omega) sz 0 (by omega); omega) (by decide) ?_
    rw [show (oW I w) 65 (fpN (fpC w ((laN w sz (P - 1, 4) K).1) ((laN w sz (P - 1, 4) K).2)) sz 0) = w.2.1 (fpN (fpC w ((laN w sz (P - 1, 4) K).1) ((laN w sz (P - 1, 4) K).2)) sz 0) from rfl]
    exact a_iret dOrders_letterAt_44 rfl ⟨by unfold laR; rw [if_pos hKs, hP], rfl, rfl, rfl⟩
  · by_cases hz : 0 < sz
    · have hI := laN_ok hsz hk4 (s0 := (P - 1, 4)) ⟨by show P - 1 < 1024; omega, by show 4 < 5; decide⟩ hz
      refine a_locs (lv' := [(4, .int (nI 0)), (0, .ref 64), (1, .int (nI K)), (2, .int (nI (P - 1))), (3, .int (nI 4))]) [0, 3, 4, 2, 1] rfl ?_
      refine l_laX  hn hR hs2 hsz hk4 (K := K) (s0 := (P - 1, 4)) (by omega) hK hI ?_ sz 0 (by omega) _ rfl
      refine a_sipush (v := -1000) dOrders_letterAt_68 (by decide) ?_
      exact a_iret dOrders_letterAt_71 rfl ⟨by unfold laR; rw [if_neg hKs], rfl, rfl, rfl⟩
    · refine a_iload 0 dOrders_letterAt_14 rfl ?_
      refine a_aload_n 3 dOrders_letterAt_16 rfl rfl ?_
      refine a_geti dOrders_letterAt_17 fl5_37 rfl ly_64 (by omega) ?_
      rw [show (oW I w) 64 2 = (nI sz) from hs2]
      refine a_icmp_geN (tgt := 68) dOrders_letterAt_20 (by decide) (by omega) (by omega) (fun _ => ?_) (fun c => False.elim (by omega))
      refine a_sipush (v := -1000) dOrders_letterAt_68 (by decide) ?_
      exact a_iret dOrders_letterAt_71 rfl ⟨by unfold laR; rw [if_neg hKs], rfl, rfl, rfl⟩
