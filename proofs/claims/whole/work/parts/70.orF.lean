/-- the best of no letters stays -/
theorem fgA_lo {dg : Nat → Int32} {i t : Nat} {an rs : Int32} {ga : Nat → Int32} (ht : 1 ≤ t) {j : Nat} (hj : j < 5) : ∀ k, fgA dg i t an rs ga k j = ga j := by
  intro k
  induction k with
  | zero => rfl
  | succ k ih =>
    have e : fgA dg i t an rs ga (k + 1) = fgAS dg i t an rs k (fgA dg i t an rs ga k) := rfl
    rw [e, ← ih]
    unfold fgAS
    repeat' split
    all_goals (first | rfl | (unfold va_up; rw [if_neg (by omega)]))
theorem fgN_lo {k0 dg : Nat → Int32} {t : Nat} {s0 : Int32 × (Nat → Int32)} (ht : 1 ≤ t) {j : Nat} (hj : j < 5) : ∀ k, (fgN k0 dg t s0 k).2 j = s0.2 j := by
  intro k
  induction k with
  | zero => rfl
  | succ k ih =>
    have e : fgN k0 dg t s0 (k + 1) = fgNS k0 dg t k (fgN k0 dg t s0 k) := rfl
    rw [e, ← ih]
    unfold fgNS
    split
    · rfl
    · exact fgA_lo ht hj 5
theorem mgN_lo {k0 dg : Nat → Int32} {sz : Nat} {ga : Nat → Int32} {j : Nat} (hj : j < 5) : ∀ k, mgN k0 dg sz ga k j = ga j := by
  intro k
  induction k with
  | zero => rfl
  | succ k ih =>
    have e : mgN k0 dg sz ga (k + 1) = mgNS k0 dg sz k (mgN k0 dg sz ga k) := rfl
    rw [e, ← ih]
    unfold mgNS
    exact fgN_lo (by omega) hj sz
theorem moR_lo {I : mI} {o nl h : Nat} {wo sg : Int32} {w : r5} {j : Nat} (hj : j < 5) : (moR I o nl h wo sg w).2.2.2.2 j = w.2.2.2.2 j := mgN_lo hj _
theorem tgN_lo {I : mI} {o nl : Nat} {s0 : Int32 × r5} {j : Nat} (hj : j < 5) : ∀ k, (tgN I o nl s0 k).2.2.2.2.2 j = s0.2.2.2.2.2 j := by
  intro k
  induction k with
  | zero => rfl
  | succ k ih =>
    have e : tgN I o nl s0 (k + 1) = tgNS I o nl k (tgN I o nl s0 k) := rfl
    rw [e, ← ih]
    exact moR_lo hj
theorem tcN_lo {I : mI} {o nl : Nat} {s0 : Nat × r5} {j : Nat} (hj : j < 5) : ∀ k, (tcN I o nl s0 k).2.2.2.2.2 j = s0.2.2.2.2.2 j := by
  intro k
  induction k with
  | zero => rfl
  | succ k ih =>
    have e : tcN I o nl s0 (k + 1) = tcNS I o nl k (tcN I o nl s0 k) := rfl
    rw [e, ← ih]
    unfold tcNS
    split <;> exact (moR_lo hj).trans (moR_lo hj)
theorem raA_lo {I : mI} {o nl : Nat} {s0 : (Nat → Int32) × r5} {j : Nat} (hj : j < 5) : ∀ k, (raA I o nl s0 k).2.2.2.2.2 j = s0.2.2.2.2.2 j := by
  intro k
  induction k with
  | zero => rfl
  | succ k ih =>
    have e : raA I o nl s0 (k + 1) = raAS I o nl k (raA I o nl s0 k) := rfl
    rw [e, ← ih]
    exact moR_lo hj
/-- the trial: a copy of an office -/
abbrev trI (I : mI) (o : Nat) : mI := cpB I o 71 cplOffice
theorem tr_W : cpW cplOffice 9 := by unfold cpW; decide
theorem tr_o {I : mI} {o a : Nat} (h : a < 71 ∨ 79 < a) : trI I o a = I a := by
  funext j
  unfold trI cpB
  rw [if_neg]
  intro ⟨h1, h2⟩
  rw [cpH_w tr_W (show 9 ≤ a - 71 by omega)] at h2
  cases h2
theorem tr_k {I : mI} {o k j : Nat} (hk : cpH cplOffice k j = true) : trI I o (71 + k) j = I (o + k) j := by
  unfold trI cpB
  rw [show 71 + k - 71 = k by omega, if_pos ⟨by omega, hk⟩]
theorem tr_oo {I : mI} {o k : Nat} (hd : 80 ≤ o ∨ o + 9 ≤ 71) (hk : k ≤ 8) : trI I o (o + k) = I (o + k) := tr_o (by omega)
theorem offR_71 {R : mR} (h : m_fin R) : offR R 71 := by
  intro k hk
  rcases (show k = 0 ∨ k = 1 ∨ k = 2 ∨ k = 3 ∨ k = 4 ∨ k = 5 ∨ k = 6 ∨ k = 7 by omega) with e | e | e | e | e | e | e | e <;> subst e
  · exact rf_71_3 h
  · exact rf_71_4 h
  · exact rf_71_5 h
  · exact rf_71_6 h
  · exact rf_71_7 h
  · exact rf_71_8 h
  · exact rf_71_9 h
  · exact rf_71_10 h
theorem oW_cp {I : mI} {w : r5} {o : Nat} (ho : o ∈ m_offs) : cpB (oW I w) o 71 cplOffice = oW (trI I o) w := by
  funext i
  by_cases h : 64 ≤ i ∧ i ≤ 68
  · have e1 : cpB (oW I w) o 71 cplOffice i = oW I w i := by
      funext j
      unfold cpB
      rw [if_neg (fun q => by omega)]
    rw [e1]
    unfold oW oM m_row
    repeat' split
    all_goals (first | rfl | omega)
  · rw [oW_n (I := trI I o) (show i < 64 ∨ 68 < i by omega)]
    funext j
    unfold trI cpB
    by_cases h2 : 71 ≤ i ∧ cpH cplOffice (i - 71) j = true
    · rw [if_pos h2, if_pos h2]
      have h3 : i - 71 < 9 := Nat.lt_of_not_le (fun q => by rw [cpH_w tr_W q] at h2; cases h2.2)
      rw [oW_o ho (i - 71) (by omega)]
    · rw [if_neg h2, if_neg h2, oW_n (by omega)]
theorem tr_hm {I : mI} {o nl : Nat} (hnl : nl ≤ 10) {l : Nat} (hl : l < nl) : trI I o 73 l = I (o + 2) l := tr_k (k := 2) ((show ∀ j, j < 10 → cpH cplOffice 2 j = true by decide) l (by omega))
theorem tr_kd {I : mI} {o nl : Nat} (hnl : nl ≤ 10) {l : Nat} (hl : l < nl) : trI I o 74 l = I (o + 3) l := tr_k (k := 3) ((show ∀ j, j < 10 → cpH cplOffice 3 j = true by decide) l (by omega))
theorem tr_pl {I : mI} {o nl : Nat} (hnl : nl ≤ 10) {l : Nat} (hl : l < nl) : trI I o 76 l = I (o + 5) l := tr_k (k := 5) ((show ∀ j, j < 10 → cpH cplOffice 5 j = true by decide) l (by omega))
theorem tr_tm {I : mI} {o j : Nat} (hj : j < 16) : trI I o 79 j = I (o + 8) j := tr_k (k := 8) ((show ∀ j, j < 16 → cpH cplOffice 8 j = true by decide) j hj)
theorem tr_md {I : mI} {o j : Nat} (hj : j < 6) : trI I o 72 j = I (o + 1) j := tr_k (k := 1) ((show ∀ j, j < 6 → cpH cplOffice 1 j = true by decide) j hj)
theorem tr_0 {I : mI} {o j : Nat} (hj : j < 3) : trI I o 71 j = I o j := tr_k (k := 0) ((show ∀ j, j < 3 → cpH cplOffice 0 j = true by decide) j hj)
/-- a law left out of the trial -/
abbrev tlI (I : mI) (o k : Nat) : mI := m_up (trI I o) 79 k (-1)
theorem tl_back {I : mI} {o k : Nat} (hk : k < 16) : m_up (tlI I o k) 79 k (I (o + 8) k) = trI I o := by
  rw [show m_up (tlI I o k) 79 k (I (o + 8) k) = m_up (trI I o) 79 k (I (o + 8) k) from m_up_up, ← tr_tm (I := I) (o := o) hk, m_up_row, va_ui, m_row_self]
/-- two letters of the trial with their homes changed -/
abbrev tsI (I : mI) (o a b : Nat) : mI := m_up (m_up (trI I o) 73 a (I (o + 2) b)) 73 b (I (o + 2) a)
theorem ts_back {I : mI} {o a b : Nat} (ha : a < 10) (hb : b < 10) : m_up (m_up (tsI I o a b) 73 a (I (o + 2) a)) 73 b (I (o + 2) b) = trI I o := by
  have e1 : I (o + 2) a = trI I o 73 a := (tr_hm (nl := 10) (Nat.le_refl _) ha).symm
  have e2 : I (o + 2) b = trI I o 73 b := (tr_hm (nl := 10) (Nat.le_refl _) hb).symm
  unfold tsI
  rw [e1, e2]
  generalize trI I o = T
  funext i
  by_cases h : i = 73
  · subst h
    funext j
    by_cases h1 : j = b
    · subst h1; exact m_up_at
    · rw [m_up_off h1]
      by_cases h2 : j = a
      · subst h2; exact m_up_at
      · rw [m_up_off h2, m_up_off h1, m_up_off h2]
  · rw [m_up_ne h, m_up_ne h, m_up_ne h, m_up_ne h]
theorem KP.oW {I T : mI} {w : r5} (h : ∀ a, (a < 64 ∨ 80 ≤ a) → T a = I a) (hg : ∀ j, j < 5 → w.2.2.2.2 j = I 68 j) : KP I (oW T w) := ⟨fun b hb => by rw [oW_n (by omega), h b (by omega)], fun j hj => hg j hj⟩
theorem tl_WFc {I : mI} {o nl k : Nat} (hnl : nl ≤ 10) (hW : WFc I o nl) : WFc (tlI I o k) 71 nl := fun l hl => by
  rw [show tlI I o k (71 + 3) l = I (o + 3) l from (congrFun (m_up_ne (show 74 ≠ 79 by decide)) l).trans (tr_kd hnl hl)]; exact hW l hl
theorem tl_WFh {I : mI} {o nl k : Nat} (hnl : nl ≤ 10) (hH : WFh (I (o + 2)) nl) : WFh (tlI I o k (71 + 2)) nl := fun l hl => by
  rw [show tlI I o k (71 + 2) l = I (o + 2) l from (congrFun (m_up_ne (show 73 ≠ 79 by decide)) l).trans (tr_hm hnl hl)]; exact hH l hl
theorem tlo_0 {I : mI} {o k j : Nat} (hj : j < 3) : tlI I o k 71 j = I o j := (congrFun (m_up_ne (show 71 ≠ 79 by decide)) j).trans (tr_0 hj)
theorem ts_n {I : mI} {o a b c : Nat} (h : c ≠ 73) : tsI I o a b c = trI I o c := (m_up_ne h).trans (m_up_ne h)
theorem ts_h {I : mI} {o a b l nl : Nat} (hnl : nl ≤ 10) (hl : l < nl) : tsI I o a b 73 l = if l = b then I (o + 2) a else if l = a then I (o + 2) b else I (o + 2) l := by
  by_cases h1 : l = b
  · subst h1; rw [if_pos rfl]; exact m_up_at
  · rw [if_neg h1]
    show m_up (m_up (trI I o) 73 a (I (o + 2) b)) 73 b (I (o + 2) a) 73 l = _
    rw [m_up_off h1]
    by_cases h2 : l = a
    · subst h2; rw [if_pos rfl]; exact m_up_at
    · rw [if_neg h2, m_up_off h2]; exact tr_hm hnl hl
theorem ts_WFc {I : mI} {o nl a b : Nat} (hnl : nl ≤ 10) (hW : WFc I o nl) : WFc (tsI I o a b) 71 nl := fun l hl => by
  rw [show tsI I o a b (71 + 3) l = I (o + 3) l from (congrFun (ts_n (by decide)) l).trans (tr_kd hnl hl)]; exact hW l hl
theorem ts_WFh {I : mI} {o nl a b : Nat} (hnl : nl ≤ 10) (ha : a < nl) (hb : b < nl) (hH : WFh (I (o + 2)) nl) : WFh (tsI I o a b (71 + 2)) nl := fun l hl => by
  rw [show tsI I o a b (71 + 2) l = _ from ts_h hnl hl]
  split
  · exact hH a ha
  · split
    · exact hH b hb
    · exact hH l hl
def sgCS (I : mI) (o nh nl : Nat) (nw : Int32) (k : Nat) (s : r5) : r5 := (if (I (o + 8) k) = (-1) then s else (if (if 0 ≤ ((tgT (tlI I o k) 71 nh nl s).1 - nw) then ((tgT (tlI I o k) 71 nh nl s).1 - nw) else 0 - ((tgT (tlI I o k) 71 nh nl s).1 - nw)) ≤ (((tgT (tlI I o k) 71 nh nl s).2).1 1) then (tgT (tlI I o k) 71 nh nl s).2 else (va_up (va_up ((tgT (tlI I o k) 71 nh nl s).2).1 0 (nI (100 + k)), ((tgT (tlI I o k) 71 nh nl s).2).2).1 1 (if 0 ≤ ((tgT (tlI I o k) 71 nh nl s).1 - nw) then ((tgT (tlI I o k) 71 nh nl s).1 - nw) else 0 - ((tgT (tlI I o k) 71 nh nl s).1 - nw)), (va_up ((tgT (tlI I o k) 71 nh nl s).2).1 0 (nI (100 + k)), ((tgT (tlI I o k) 71 nh nl s).2).2).2)))
def sgC (I : mI) (o nh nl : Nat) (nw : Int32) (s0 : r5) : Nat → r5
  | 0 => s0
  | k + 1 => sgCS I o nh nl nw k (sgC I o nh nl nw s0 k)
theorem l_sgC {S : Nat × (Nat → Int32)} {d n : Nat} {I : mI} {J : mJ} {R : mR} (hn : 122 ≤ n) (hR : m_fin R) {o nh nl : Nat} (ho : o ∈ m_offs) (hr : offR R o) (hon : o + 8 < n) (hh : I o 0 = nI nh) (hnh : nh ≤ 6) (hl : I o 1 = nI nl) (hnl : nl ≤ 10) (hW : WFc I o nl) (hH : WFh (I (o + 2)) nl) (hd : 80 ≤ o ∨ o + 9 ≤ 71) {nw : Int32}  {s0 : r5} {Q : Option Value → mI → mJ → mR → Prop}  (hx : AW S (d + 5) YOrders_findStrongest n n Q 111 [(3, .int (nI 16)), (0, .ref 64), (1, .ref o), (2, .int nw)] [] (oW (trI I o) (sgC I o nh nl nw s0 16)) J R n) : ∀ m k, k + m = 16 → ∀ s : r5, sgC I o nh nl nw s0 k = s → AW S (d + 5) YOrders_findStrongest n n Q 26 [(3, .int (nI k)), (0, .ref 64), (1, .ref o), (2, .int nw)] [] (oW (trI I o) s) J R n := by
  intro m
  induction m with
  | zero =>
    intro k hk9 s es
    rw [show k = 16 by omega] at es ⊢
    subst es
    refine a_iload_n 0 dOrders_findStrongest_26 rfl rfl ?_
    refine a_bipushN (a := 16) dOrders_findStrongest_27 (by decide) ?_
    refine a_icmp_geN (tgt := 111) dOrders_findStrongest_29 (by decide) (by omega) (by omega) (fun _ => ?_) (fun c => False.elim (by omega))
    exact hx
  | succ m ih =>
    intro k hk9 s es
    refine a_iload_n 0 dOrders_findStrongest_26 rfl rfl ?_
    refine a_bipushN (a := 16) dOrders_findStrongest_27 (by decide) ?_
    refine a_icmp_geN (tgt := 111) dOrders_findStrongest_29 (by decide) (by omega) (by omega) (fun c => False.elim (by omega)) (fun _ => ?_)
    refine a_aload_n 2 dOrders_findStrongest_32 rfl rfl ?_
    refine a_geta (r := (o + 8)) dOrders_findStrongest_33 fl5_87 rfl (of_l0 ho) (by omega) (hr 7 (by decide)) ?_
    refine a_iload_n 0 dOrders_findStrongest_36 rfl rfl ?_
    refine a_ialdN (a := k) dOrders_findStrongest_37 (of_l8 ho) (by omega) (by omega) (by decide) ?_
    rw [show (oW (trI I o) s) (o + 8) k = I (o + 8) k from (by rw [oW_o ho 8 (by decide)]; exact congrFun (tr_oo hd (by decide)) _)]
    refine a_iconst (v := -1) dOrders_findStrongest_38 (by decide) ?_
    refine a_icmp_eq (tgt := 105) dOrders_findStrongest_39 (by decide) (fun c39 => ?_) (fun c39 => ?_)
    · refine a_iincN (lv' := [(3, .int (nI (k + 1))), (0, .ref 64), (1, .ref o), (2, .int nw)]) (j := 0) dOrders_findStrongest_105 rfl (by decide) rfl ?_
      refine a_goto (tgt := 26) dOrders_findStrongest_108 (by decide) ?_
      have ez9 : sgC I o nh nl nw s0 (k + 1) = s := by
        show sgCS I o nh nl nw k (sgC I o nh nl nw s0 k) = _
        rw [es]
        unfold sgCS
        rw [if_pos c39]
      exact ih (k + 1) (by omega) s ez9
    · refine a_aload_n 1 dOrders_findStrongest_42 rfl rfl ?_
      refine a_geta (r := 71) dOrders_findStrongest_43 fl5_33 rfl ly_64 (by omega) (rf_64_9 hR) ?_
      refine a_geta (r := 79) dOrders_findStrongest_46 fl5_87 rfl ly_71 (by omega) (rf_71_10 hR) ?_
      refine a_iload_n 0 dOrders_findStrongest_49 rfl rfl ?_
      refine a_iconst (v := -1) dOrders_findStrongest_50 (by decide) ?_
      refine a_iastN (a := k) dOrders_findStrongest_51 ly_79 (by omega) (by omega) (by decide) ?_
      rw [oW_up (by decide)]
      refine a_aload_n 1 dOrders_findStrongest_52 rfl rfl ?_
      refine a_aload_n 1 dOrders_findStrongest_53 rfl rfl ?_
      refine a_geta (r := 71) dOrders_findStrongest_54 fl5_33 rfl ly_64 (by omega) (rf_64_9 hR) ?_
      refine a_callV (Q' := m_res (some (.int (tgT (tlI I o k) 71 nh nl s).1)) (oW (tlI I o k) (tgT (tlI I o k) 71 nh nl s).2) J R) (as := [.ref 71]) (st := []) dOrders_findStrongest_57 ml5_73 rfl (Nat.le_of_ble_eq_true rfl) ly_64 rfl rfl (by decide) (by omega) (Nat.le_of_ble_eq_true rfl) rfl (Nat.le_refl _) (Nat.le_refl _) (by have h := c_together (S := S) (d := d) (n := n) (J := J) (R := R) (I := tlI I o k) (o := 71) (nh := nh) (nl := nl) (w := s) hn hR (by decide) (offR_71 hR) (by omega) ((tlo_0 (by decide)).trans hh) hnh ((tlo_0 (by decide)).trans hl) hnl (tl_WFc hnl hW) (tl_WFh hnl hH); exact h) (m_go ?_)
      show AW _ _ _ _ _ _ _ _ [.int (tgT (tlI I o k) 71 nh nl s).1] _ _ _ _
      refine a_iload_n 3 dOrders_findStrongest_60 rfl rfl ?_
      refine a_isub dOrders_findStrongest_61 ?_
      refine a_abs dOrders_findStrongest_62 mm5_90 (Nat.le_of_ble_eq_true rfl) (Nat.le_refl _) ?_
      refine a_istore (lv' := [(4, .int (if 0 ≤ ((tgT (tlI I o k) 71 nh nl s).1 - nw) then ((tgT (tlI I o k) 71 nh nl s).1 - nw) else 0 - ((tgT (tlI I o k) 71 nh nl s).1 - nw))), (3, .int (nI k)), (0, .ref 64), (1, .ref o), (2, .int nw)]) dOrders_findStrongest_65 (by decide) rfl ?_
      refine a_aload_n 2 dOrders_findStrongest_67 rfl rfl ?_
      refine a_geta (r := 71) dOrders_findStrongest_68 fl5_33 rfl ly_64 (by omega) (rf_64_9 hR) ?_
      refine a_geta (r := 79) dOrders_findStrongest_71 fl5_87 rfl ly_71 (by omega) (rf_71_10 hR) ?_
      refine a_iload_n 1 dOrders_findStrongest_74 rfl rfl ?_
      refine a_aload_n 3 dOrders_findStrongest_75 rfl rfl ?_
      refine a_geta (r := (o + 8)) dOrders_findStrongest_76 fl5_87 rfl (of_l0 ho) (by omega) (hr 7 (by decide)) ?_
      refine a_iload_n 1 dOrders_findStrongest_79 rfl rfl ?_
      refine a_ialdN (a := k) dOrders_findStrongest_80 (of_l8 ho) (by omega) (by omega) (by decide) ?_
      rw [show (oW (tlI I o k) (tgT (tlI I o k) 71 nh nl s).2) (o + 8) k = I (o + 8) k from (by rw [oW_o ho 8 (by decide)]; exact congrFun ((m_up_ne (by omega)).trans (tr_oo hd (by decide))) _)]
      refine a_iastN (a := k) dOrders_findStrongest_81 ly_79 (by omega) (by omega) (by decide) ?_
      rw [oW_up (by decide), tl_back (by omega)]
      refine a_iload 0 dOrders_findStrongest_82 rfl ?_
      refine a_aload_n 2 dOrders_findStrongest_84 rfl rfl ?_
      refine a_geti dOrders_findStrongest_85 fl5_84 rfl ly_64 (by omega) ?_
      rw [show (oW (trI I o) (tgT (tlI I o k) 71 nh nl s).2) 64 1 = ((tgT (tlI I o k) 71 nh nl s).2).1 1 from rfl]
      refine a_icmp_le (tgt := 105) dOrders_findStrongest_88 (by decide) (fun c88 => ?_) (fun c88 => ?_)
      · refine a_iincN (lv' := [(3, .int (nI (k + 1))), (4, .int (if 0 ≤ ((tgT (tlI I o k) 71 nh nl s).1 - nw) then ((tgT (tlI I o k) 71 nh nl s).1 - nw) else 0 - ((tgT (tlI I o k) 71 nh nl s).1 - nw))), (0, .ref 64), (1, .ref o), (2, .int nw)]) (j := 1) dOrders_findStrongest_105 rfl (by decide) rfl ?_
        refine a_goto (tgt := 26) dOrders_findStrongest_108 (by decide) ?_
        have ez9 : sgC I o nh nl nw s0 (k + 1) = (tgT (tlI I o k) 71 nh nl s).2 := by
          show sgCS I o nh nl nw k (sgC I o nh nl nw s0 k) = _
          rw [es]
          unfold sgCS
          rw [if_neg c39, if_pos c88]
        refine a_locs (lv' := [(3, .int (nI (k + 1))), (0, .ref 64), (1, .ref o), (2, .int nw)]) [0, 2, 3, 4] rfl ?_
        exact ih (k + 1) (by omega) (tgT (tlI I o k) 71 nh nl s).2 ez9
      · refine a_aload_n 2 dOrders_findStrongest_91 rfl rfl ?_
        refine a_bipushN (a := 100) dOrders_findStrongest_92 (by decide) ?_
        refine a_iload_n 1 dOrders_findStrongest_94 rfl rfl ?_
        refine a_iaddN (a := 100) (b := k) dOrders_findStrongest_95 ?_
        refine a_puti dOrders_findStrongest_96 fl5_81 rfl ly_64 (by omega) ?_
        rw [oW_f]
        refine a_aload_n 2 dOrders_findStrongest_99 rfl rfl ?_
        refine a_iload 0 dOrders_findStrongest_100 rfl ?_
        refine a_puti dOrders_findStrongest_102 fl5_84 rfl ly_64 (by omega) ?_
        rw [oW_f]
        refine a_iincN (lv' := [(3, .int (nI (k + 1))), (4, .int (if 0 ≤ ((tgT (tlI I o k) 71 nh nl s).1 - nw) then ((tgT (tlI I o k) 71 nh nl s).1 - nw) else 0 - ((tgT (tlI I o k) 71 nh nl s).1 - nw))), (0, .ref 64), (1, .ref o), (2, .int nw)]) (j := 1) dOrders_findStrongest_105 rfl (by decide) rfl ?_
        refine a_goto (tgt := 26) dOrders_findStrongest_108 (by decide) ?_
        have ez9 : sgC I o nh nl nw s0 (k + 1) = (va_up (va_up ((tgT (tlI I o k) 71 nh nl s).2).1 0 (nI (100 + k)), ((tgT (tlI I o k) 71 nh nl s).2).2).1 1 (if 0 ≤ ((tgT (tlI I o k) 71 nh nl s).1 - nw) then ((tgT (tlI I o k) 71 nh nl s).1 - nw) else 0 - ((tgT (tlI I o k) 71 nh nl s).1 - nw)), (va_up ((tgT (tlI I o k) 71 nh nl s).2).1 0 (nI (100 + k)), ((tgT (tlI I o k) 71 nh nl s).2).2).2) := by
          show sgCS I o nh nl nw k (sgC I o nh nl nw s0 k) = _
          rw [es]
          unfold sgCS
          rw [if_neg c39, if_neg c88]
        refine a_locs (lv' := [(3, .int (nI (k + 1))), (0, .ref 64), (1, .ref o), (2, .int nw)]) [0, 2, 3, 4] rfl ?_
        exact ih (k + 1) (by omega) (va_up (va_up ((tgT (tlI I o k) 71 nh nl s).2).1 0 (nI (100 + k)), ((tgT (tlI I o k) 71 nh nl s).2).2).1 1 (if 0 ≤ ((tgT (tlI I o k) 71 nh nl s).1 - nw) then ((tgT (tlI I o k) 71 nh nl s).1 - nw) else 0 - ((tgT (tlI I o k) 71 nh nl s).1 - nw)), (va_up ((tgT (tlI I o k) 71 nh nl s).2).1 0 (nI (100 + k)), ((tgT (tlI I o k) 71 nh nl s).2).2).2) ez9
abbrev sgS0 (I : mI) (o nh nl : Nat) (w : r5) : r5 := (va_up (va_up (tgT I o nh nl w).2.1 0 (-1)) 1 (-1), (tgT I o nh nl w).2.2)
abbrev sgCT (I : mI) (o nh nl : Nat) (w : r5) : r5 := sgC I o nh nl (tgT I o nh nl w).1 (sgS0 I o nh nl w) 16
theorem c_findStrongest {S : Nat × (Nat → Int32)} {d n : Nat} {I : mI} {J : mJ} {R : mR} (hn : 122 ≤ n) (hR : m_fin R) {o nh nl : Nat} (ho : o ∈ m_offs) (hr : offR R o) (hon : o + 8 < n) (hh : I o 0 = nI nh) (hnh : nh ≤ 6) (hl : I o 1 = nI nl) (hnl : nl ≤ 10) (hW : WFc I o nl) (hH : WFh (I (o + 2)) nl) (hd : 80 ≤ o ∨ o + 9 ≤ 71) {w : r5}  : RUN S (d + 5) YOrders_findStrongest [.ref 64, .ref o] (oW I w) J R n none (oW (trI I o) (sgCT I o nh nl w)) J R n := by
  show AW S _ YOrders_findStrongest n n _ 0 [(0, .ref 64), (1, .ref o)] [] (oW I w) J R n
  refine a_aload_n 0 dOrders_findStrongest_0 rfl rfl ?_
  refine a_aload_n 1 dOrders_findStrongest_1 rfl rfl ?_
  refine a_callV (Q' := m_res (some (.int (tgT I o nh nl w).1)) (oW I (tgT I o nh nl w).2) J R) (as := [.ref o]) (st := []) dOrders_findStrongest_2 ml5_73 rfl (Nat.le_of_ble_eq_true rfl) ly_64 rfl rfl (by decide) (by omega) (Nat.le_of_ble_eq_true rfl) rfl (Nat.le_refl _) (Nat.le_refl _) (by have h := c_together (S := S) (d := d) (n := n) (J := J) (R := R) (I := I) (w := w) hn hR ho hr hon hh hnh hl hnl hW hH; exact h) (m_go ?_)
  show AW _ _ _ _ _ _ _ _ [.int (tgT I o nh nl w).1] _ _ _ _
  refine a_istore_n (lv' := [(2, .int (tgT I o nh nl w).1), (0, .ref 64), (1, .ref o)]) dOrders_findStrongest_5 rfl (by decide) rfl ?_
  refine a_aload_n 1 dOrders_findStrongest_6 rfl rfl ?_
  refine a_geta (r := 71) dOrders_findStrongest_7 fl5_33 rfl ly_64 (by omega) (rf_64_9 hR) ?_
  refine a_aload_n 2 dOrders_findStrongest_10 rfl rfl ?_
  refine a_callV (Q' := m_res none (oW (trI I o) ((tgT I o nh nl w).2)) J R) (as := [.ref o]) (st := []) dOrders_findStrongest_11 ml5_77 rfl (Nat.le_of_ble_eq_true rfl) ly_71 rfl rfl (by decide) (by omega) (Nat.le_of_ble_eq_true rfl) rfl (Nat.le_refl _) (Nat.le_refl _) (by have h := c_Office_copyFrom (S := S) (d := d + 3) (n := n) (J := J) (R := R) (I := (oW I (tgT I o nh nl w).2)) (o := 71) (p := o) (by decide) (offR_71 hR) (by omega) ho hr hon (by omega); rw [oW_cp ho] at h; exact h) (m_go ?_)
  show AW _ _ _ _ _ _ _ _ [] _ _ _ _
  refine a_aload_n 1 dOrders_findStrongest_14 rfl rfl ?_
  refine a_iconst (v := -1) dOrders_findStrongest_15 (by decide) ?_
  refine a_puti dOrders_findStrongest_16 fl5_81 rfl ly_64 (by omega) ?_
  rw [oW_f]
  refine a_aload_n 1 dOrders_findStrongest_19 rfl rfl ?_
  refine a_iconst (v := -1) dOrders_findStrongest_20 (by decide) ?_
  refine a_puti dOrders_findStrongest_21 fl5_84 rfl ly_64 (by omega) ?_
  rw [oW_f]
  refine a_iconstN (a := 0) dOrders_findStrongest_24 (by decide) ?_
  refine a_istore_n (lv' := [(3, .int (nI 0)), (2, .int (tgT I o nh nl w).1), (0, .ref 64), (1, .ref o)]) dOrders_findStrongest_25 rfl (by decide) rfl ?_
  refine a_locs (lv' := [(3, .int (nI 0)), (0, .ref 64), (1, .ref o), (2, .int (tgT I o nh nl w).1)]) [0, 2, 3, 1] rfl ?_
  refine l_sgC (s0 := (sgS0 I o nh nl w)) hn hR ho hr hon hh hnh hl hnl hW hH hd (nw := (tgT I o nh nl w).1) ?_ 16 0 (by omega) _ rfl
  exact a_vret dOrders_findStrongest_111 rfl ⟨rfl, rfl, rfl, rfl⟩
abbrev tyV (I : mI) (o nh nl a b : Nat) (w : r5) : Int32 × r5 := tgT (tsI I o a b) 71 nh nl w
/-- behind trySwap -/
def tyW (I : mI) (o nh nl a b : Nat) (w : r5) : r5 := if (tyV I o nh nl a b w).1 ≤ (tyV I o nh nl a b w).2.1 1 then (tyV I o nh nl a b w).2 else (va_up (va_up (tyV I o nh nl a b w).2.1 0 (nI (10 * a + b))) 1 (tyV I o nh nl a b w).1, (tyV I o nh nl a b w).2.2)
theorem c_trySwap {S : Nat × (Nat → Int32)} {d n : Nat} {I : mI} {J : mJ} {R : mR} (hn : 122 ≤ n) (hR : m_fin R) {o nh nl : Nat} (ho : o ∈ m_offs) (hr : offR R o) (hon : o + 8 < n) (hh : I o 0 = nI nh) (hnh : nh ≤ 6) (hl : I o 1 = nI nl) (hnl : nl ≤ 10) (hW : WFc I o nl) (hH : WFh (I (o + 2)) nl) (hd : 80 ≤ o ∨ o + 9 ≤ 71) {a b : Nat} (ha : a < nl) (hb : b < nl) {w : r5}  : RUN S (d + 5) YOrders_trySwap [.ref 64, .ref o, .int (nI a), .int (nI b)] (oW (trI I o) w) J R n none (oW (trI I o) (tyW I o nh nl a b w)) J R n := by
  show AW S _ YOrders_trySwap n n _ 0 [(0, .ref 64), (1, .ref o), (2, .int (nI a)), (3, .int (nI b))] [] (oW (trI I o) w) J R n
  refine a_aload_n 0 dOrders_trySwap_0 rfl rfl ?_
  refine a_geta (r := 71) dOrders_trySwap_1 fl5_33 rfl ly_64 (by omega) (rf_64_9 hR) ?_
  refine a_geta (r := 73) dOrders_trySwap_4 fl5_44 rfl ly_71 (by omega) (rf_71_4 hR) ?_
  refine a_iload_n 2 dOrders_trySwap_7 rfl rfl ?_
  refine a_aload_n 1 dOrders_trySwap_8 rfl rfl ?_
  refine a_geta (r := (o + 2)) dOrders_trySwap_9 fl5_44 rfl (of_l0 ho) (by omega) (hr 1 (by decide)) ?_
  refine a_iload_n 3 dOrders_trySwap_12 rfl rfl ?_
  refine a_ialdN (a := b) dOrders_trySwap_13 (of_l2 ho) (by omega) (by omega) (by decide) ?_
  rw [show (oW (trI I o) w) (o + 2) b = I (o + 2) b from (by rw [oW_o ho 2 (by decide)]; exact congrFun (tr_oo hd (by decide)) _)]
  refine a_iastN (a := a) dOrders_trySwap_14 ly_73 (by omega) (by omega) (by decide) ?_
  rw [oW_up (by decide)]
  refine a_aload_n 0 dOrders_trySwap_15 rfl rfl ?_
  refine a_geta (r := 71) dOrders_trySwap_16 fl5_33 rfl ly_64 (by omega) (rf_64_9 hR) ?_
  refine a_geta (r := 73) dOrders_trySwap_19 fl5_44 rfl ly_71 (by omega) (rf_71_4 hR) ?_
  refine a_iload_n 3 dOrders_trySwap_22 rfl rfl ?_
  refine a_aload_n 1 dOrders_trySwap_23 rfl rfl ?_
  refine a_geta (r := (o + 2)) dOrders_trySwap_24 fl5_44 rfl (of_l0 ho) (by omega) (hr 1 (by decide)) ?_
  refine a_iload_n 2 dOrders_trySwap_27 rfl rfl ?_
  refine a_ialdN (a := a) dOrders_trySwap_28 (of_l2 ho) (by omega) (by omega) (by decide) ?_
  rw [show (oW (m_up (trI I o) 73 a (I (o + 2) b)) w) (o + 2) a = I (o + 2) a from (by rw [oW_o ho 2 (by decide)]; exact congrFun ((m_up_ne (by omega)).trans (tr_oo hd (by decide))) _)]
  refine a_iastN (a := b) dOrders_trySwap_29 ly_73 (by omega) (by omega) (by decide) ?_
  rw [oW_up (by decide)]
  refine a_aload_n 0 dOrders_trySwap_30 rfl rfl ?_
  refine a_aload_n 0 dOrders_trySwap_31 rfl rfl ?_
  refine a_geta (r := 71) dOrders_trySwap_32 fl5_33 rfl ly_64 (by omega) (rf_64_9 hR) ?_
  refine a_callV (Q' := m_res (some (.int (tgT (tsI I o a b) 71 nh nl w).1)) (oW (tsI I o a b) (tgT (tsI I o a b) 71 nh nl w).2) J R) (as := [.ref 71]) (st := []) dOrders_trySwap_35 ml5_73 rfl (Nat.le_of_ble_eq_true rfl) ly_64 rfl rfl (by decide) (by omega) (Nat.le_of_ble_eq_true rfl) rfl (Nat.le_refl _) (Nat.le_refl _) (by have h := c_together (S := S) (d := d) (n := n) (J := J) (R := R) (I := tsI I o a b) (o := 71) (nh := nh) (nl := nl) (w := w) hn hR (by decide) (offR_71 hR) (by omega) ((congrFun (ts_n (by decide)) _).trans ((tr_0 (by decide)).trans hh)) hnh ((congrFun (ts_n (by decide)) _).trans ((tr_0 (by decide)).trans hl)) hnl (ts_WFc hnl hW) (ts_WFh hnl ha hb hH); exact h) (m_go ?_)
  show AW _ _ _ _ _ _ _ _ [.int (tgT (tsI I o a b) 71 nh nl w).1] _ _ _ _
  refine a_istore (lv' := [(4, .int (tgT (tsI I o a b) 71 nh nl w).1), (0, .ref 64), (1, .ref o), (2, .int (nI a)), (3, .int (nI b))]) dOrders_trySwap_38 (by decide) rfl ?_
  refine a_aload_n 1 dOrders_trySwap_40 rfl rfl ?_
  refine a_geta (r := 71) dOrders_trySwap_41 fl5_33 rfl ly_64 (by omega) (rf_64_9 hR) ?_
  refine a_geta (r := 73) dOrders_trySwap_44 fl5_44 rfl ly_71 (by omega) (rf_71_4 hR) ?_
  refine a_iload_n 3 dOrders_trySwap_47 rfl rfl ?_
  refine a_aload_n 2 dOrders_trySwap_48 rfl rfl ?_
  refine a_geta (r := (o + 2)) dOrders_trySwap_49 fl5_44 rfl (of_l0 ho) (by omega) (hr 1 (by decide)) ?_
  refine a_iload_n 3 dOrders_trySwap_52 rfl rfl ?_
  refine a_ialdN (a := a) dOrders_trySwap_53 (of_l2 ho) (by omega) (by omega) (by decide) ?_
  rw [show (oW (tsI I o a b) (tgT (tsI I o a b) 71 nh nl w).2) (o + 2) a = I (o + 2) a from (by rw [oW_o ho 2 (by decide)]; exact congrFun ((m_up_ne (by omega)).trans ((m_up_ne (by omega)).trans (tr_oo hd (by decide)))) _)]
  refine a_iastN (a := a) dOrders_trySwap_54 ly_73 (by omega) (by omega) (by decide) ?_
  rw [oW_up (by decide)]
  refine a_aload_n 1 dOrders_trySwap_55 rfl rfl ?_
  refine a_geta (r := 71) dOrders_trySwap_56 fl5_33 rfl ly_64 (by omega) (rf_64_9 hR) ?_
  refine a_geta (r := 73) dOrders_trySwap_59 fl5_44 rfl ly_71 (by omega) (rf_71_4 hR) ?_
  refine a_iload_n 4 dOrders_trySwap_62 rfl rfl ?_
  refine a_aload_n 2 dOrders_trySwap_63 rfl rfl ?_
  refine a_geta (r := (o + 2)) dOrders_trySwap_64 fl5_44 rfl (of_l0 ho) (by omega) (hr 1 (by decide)) ?_
  refine a_iload_n 4 dOrders_trySwap_67 rfl rfl ?_
  refine a_ialdN (a := b) dOrders_trySwap_68 (of_l2 ho) (by omega) (by omega) (by decide) ?_
  rw [show (oW (m_up (tsI I o a b) 73 a (I (o + 2) a)) (tgT (tsI I o a b) 71 nh nl w).2) (o + 2) b = I (o + 2) b from (by rw [oW_o ho 2 (by decide)]; exact congrFun ((m_up_ne (by omega)).trans ((m_up_ne (by omega)).trans ((m_up_ne (by omega)).trans (tr_oo hd (by decide))))) _)]
  refine a_iastN (a := b) dOrders_trySwap_69 ly_73 (by omega) (by omega) (by decide) ?_
  rw [oW_up (by decide)]
  rw [show (m_up (m_up (tsI I o a b) 73 a (I (o + 2) a)) 73 b (I (o + 2) b)) = trI I o from ts_back (by omega) (by omega)]
  refine a_iload 0 dOrders_trySwap_70 rfl ?_
  refine a_aload_n 1 dOrders_trySwap_72 rfl rfl ?_
  refine a_geti dOrders_trySwap_73 fl5_84 rfl ly_64 (by omega) ?_
  rw [show (oW (trI I o) (tgT (tsI I o a b) 71 nh nl w).2) 64 1 = ((tgT (tsI I o a b) 71 nh nl w).2).1 1 from rfl]
  refine a_icmp_le (tgt := 95) dOrders_trySwap_76 (by decide) (fun c76 => ?_) (fun c76 => ?_)
  · exact a_vret dOrders_trySwap_95 rfl ⟨rfl, by unfold tyW; rw [if_pos c76], rfl, rfl⟩
  · refine a_aload_n 1 dOrders_trySwap_79 rfl rfl ?_
    refine a_bipushN (a := 10) dOrders_trySwap_80 (by decide) ?_
    refine a_iload_n 3 dOrders_trySwap_82 rfl rfl ?_
    refine a_imulN (a := 10) (b := a) dOrders_trySwap_83 ?_
    refine a_iload_n 4 dOrders_trySwap_84 rfl rfl ?_
    refine a_iaddN (a := (10 * a)) (b := b) dOrders_trySwap_85 ?_
    refine a_puti dOrders_trySwap_86 fl5_81 rfl ly_64 (by omega) ?_
    rw [oW_f]
    refine a_aload_n 1 dOrders_trySwap_89 rfl rfl ?_
    refine a_iload 0 dOrders_trySwap_90 rfl ?_
    refine a_puti dOrders_trySwap_92 fl5_84 rfl ly_64 (by omega) ?_
    rw [oW_f]
    exact a_vret dOrders_trySwap_95 rfl ⟨rfl, by unfold tyW; rw [if_neg c76], rfl, rfl⟩
def swCS (I : mI) (o nh nl t : Nat) (k : Nat) (s : r5) : r5 := (if (I (o + 2) t) = (I (o + 2) (t + 1 + k)) then s else (tyW I o nh nl t (t + 1 + k) s))
def swC (I : mI) (o nh nl t : Nat) (s0 : r5) : Nat → r5
  | 0 => s0
  | k + 1 => swCS I o nh nl t k (swC I o nh nl t s0 k)
theorem l_swC {S : Nat × (Nat → Int32)} {d n : Nat} {I : mI} {J : mJ} {R : mR} (hn : 122 ≤ n) (hR : m_fin R) {o nh nl : Nat} (ho : o ∈ m_offs) (hr : offR R o) (hon : o + 8 < n) (hh : I o 0 = nI nh) (hnh : nh ≤ 6) (hl : I o 1 = nI nl) (hnl : nl ≤ 10) (hW : WFc I o nl) (hH : WFh (I (o + 2)) nl) (hd : 80 ≤ o ∨ o + 9 ≤ 71) {t : Nat} (ht : t < nl)  {s0 : r5} {Q : Option Value → mI → mJ → mR → Prop}  (hx : AW S (d + 6) YOrders_findSwapped n n Q 72 [(3, .int (nI (t + 1 + (nl - (t + 1))))), (0, .ref 64), (1, .ref o), (2, .int (nI t))] [] (oW (trI I o) (swC I o nh nl t s0 (nl - (t + 1)))) J R n) : ∀ m k, k + m = (nl - (t + 1)) → ∀ s : r5, swC I o nh nl t s0 k = s → AW S (d + 6) YOrders_findSwapped n n Q 36 [(3, .int (nI (t + 1 + k))), (0, .ref 64), (1, .ref o), (2, .int (nI t))] [] (oW (trI I o) s) J R n := by
  intro m
  induction m with
  | zero =>
    intro k hk9 s es
    rw [show k = (nl - (t + 1)) by omega] at es ⊢
    subst es
    refine a_iload_n 0 dOrders_findSwapped_36 rfl rfl ?_
    refine a_aload_n 2 dOrders_findSwapped_37 rfl rfl ?_
    refine a_geti dOrders_findSwapped_38 fl5_41 rfl (of_l0 ho) (by omega) ?_
    rw [show (oW (trI I o) (swC I o nh nl t s0 (nl - (t + 1)))) o 1 = (nI nl) from (by rw [oW_o0 ho, tr_o (by omega)]; exact hl)]
    refine a_icmp_geN (tgt := 72) dOrders_findSwapped_41 (by decide) (by omega) (by omega) (fun _ => ?_) (fun c => False.elim (by omega))
    exact hx
  | succ m ih =>
    intro k hk9 s es
    refine a_iload_n 0 dOrders_findSwapped_36 rfl rfl ?_
    refine a_aload_n 2 dOrders_findSwapped_37 rfl rfl ?_
    refine a_geti dOrders_findSwapped_38 fl5_41 rfl (of_l0 ho) (by omega) ?_
    rw [show (oW (trI I o) s) o 1 = (nI nl) from (by rw [oW_o0 ho, tr_o (by omega)]; exact hl)]
    refine a_icmp_geN (tgt := 72) dOrders_findSwapped_41 (by decide) (by omega) (by omega) (fun c => False.elim (by omega)) (fun _ => ?_)
    refine a_aload_n 2 dOrders_findSwapped_44 rfl rfl ?_
    refine a_geta (r := (o + 2)) dOrders_findSwapped_45 fl5_44 rfl (of_l0 ho) (by omega) (hr 1 (by decide)) ?_
    refine a_iload_n 3 dOrders_findSwapped_48 rfl rfl ?_
    refine a_ialdN (a := t) dOrders_findSwapped_49 (of_l2 ho) (by omega) (by omega) (by decide) ?_
    rw [show (oW (trI I o) s) (o + 2) t = I (o + 2) t from (by rw [oW_o ho 2 (by decide)]; exact congrFun (tr_oo hd (by decide)) _)]
    refine a_aload_n 2 dOrders_findSwapped_50 rfl rfl ?_
    refine a_geta (r := (o + 2)) dOrders_findSwapped_51 fl5_44 rfl (of_l0 ho) (by omega) (hr 1 (by decide)) ?_
    refine a_iload_n 0 dOrders_findSwapped_54 rfl rfl ?_
    refine a_ialdN (a := (t + 1 + k)) dOrders_findSwapped_55 (of_l2 ho) (by omega) (by omega) (by decide) ?_
    rw [show (oW (trI I o) s) (o + 2) (t + 1 + k) = I (o + 2) (t + 1 + k) from (by rw [oW_o ho 2 (by decide)]; exact congrFun (tr_oo hd (by decide)) _)]
    refine a_icmp_eq (tgt := 66) dOrders_findSwapped_56 (by decide) (fun c56 => ?_) (fun c56 => ?_)
    · refine a_iincN (lv' := [(3, .int (nI ((t + 1 + k) + 1))), (0, .ref 64), (1, .ref o), (2, .int (nI t))]) (j := 0) dOrders_findSwapped_66 rfl (by decide) rfl ?_
      refine a_goto (tgt := 36) dOrders_findSwapped_69 (by decide) ?_
      have ez9 : swC I o nh nl t s0 (k + 1) = s := by
        show swCS I o nh nl t k (swC I o nh nl t s0 k) = _
        rw [es]
        unfold swCS
        rw [if_pos c56]
      exact ih (k + 1) (by omega) s ez9
    · refine a_aload_n 1 dOrders_findSwapped_59 rfl rfl ?_
      refine a_aload_n 2 dOrders_findSwapped_60 rfl rfl ?_
      refine a_iload_n 3 dOrders_findSwapped_61 rfl rfl ?_
      refine a_iload_n 0 dOrders_findSwapped_62 rfl rfl ?_
      refine a_callV (Q' := m_res none (oW (trI I o) (tyW I o nh nl t (t + 1 + k) s)) J R) (as := [.ref o, .int (nI t), .int (nI (t + 1 + k))]) (st := []) dOrders_findSwapped_63 ml5_96 rfl (Nat.le_of_ble_eq_true rfl) ly_64 rfl rfl (by decide) (by omega) (Nat.le_of_ble_eq_true rfl) rfl (Nat.le_refl _) (Nat.le_refl _) (c_trySwap hn hR ho hr hon hh hnh hl hnl hW hH hd (by omega) (by omega)) (m_go ?_)
      show AW _ _ _ _ _ _ _ _ [] _ _ _ _
      refine a_iincN (lv' := [(3, .int (nI ((t + 1 + k) + 1))), (0, .ref 64), (1, .ref o), (2, .int (nI t))]) (j := 0) dOrders_findSwapped_66 rfl (by decide) rfl ?_
      refine a_goto (tgt := 36) dOrders_findSwapped_69 (by decide) ?_
      have ez9 : swC I o nh nl t s0 (k + 1) = (tyW I o nh nl t (t + 1 + k) s) := by
        show swCS I o nh nl t k (swC I o nh nl t s0 k) = _
        rw [es]
        unfold swCS
        rw [if_neg c56]
      exact ih (k + 1) (by omega) (tyW I o nh nl t (t + 1 + k) s) ez9
def swDS (I : mI) (o nh nl : Nat) (k : Nat) (s : r5) : r5 := (swC I o nh nl k s (nl - (k + 1)))
def swD (I : mI) (o nh nl : Nat) (s0 : r5) : Nat → r5
  | 0 => s0
  | k + 1 => swDS I o nh nl k (swD I o nh nl s0 k)
theorem l_swD {S : Nat × (Nat → Int32)} {d n : Nat} {I : mI} {J : mJ} {R : mR} (hn : 122 ≤ n) (hR : m_fin R) {o nh nl : Nat} (ho : o ∈ m_offs) (hr : offR R o) (hon : o + 8 < n) (hh : I o 0 = nI nh) (hnh : nh ≤ 6) (hl : I o 1 = nI nl) (hnl : nl ≤ 10) (hW : WFc I o nl) (hH : WFh (I (o + 2)) nl) (hd : 80 ≤ o ∨ o + 9 ≤ 71)  {s0 : r5} {Q : Option Value → mI → mJ → mR → Prop}  (hx : AW S (d + 6) YOrders_findSwapped n n Q 78 [(2, .int (nI nl)), (0, .ref 64), (1, .ref o)] [] (oW (trI I o) (swD I o nh nl s0 nl)) J R n) : ∀ m k, k + m = nl → ∀ s : r5, swD I o nh nl s0 k = s → AW S (d + 6) YOrders_findSwapped n n Q 24 [(2, .int (nI k)), (0, .ref 64), (1, .ref o)] [] (oW (trI I o) s) J R n := by
  intro m
  induction m with
  | zero =>
    intro k hk9 s es
    rw [show k = nl by omega] at es ⊢
    subst es
    refine a_iload_n 0 dOrders_findSwapped_24 rfl rfl ?_
    refine a_aload_n 2 dOrders_findSwapped_25 rfl rfl ?_
    refine a_geti dOrders_findSwapped_26 fl5_41 rfl (of_l0 ho) (by omega) ?_
    rw [show (oW (trI I o) (swD I o nh nl s0 nl)) o 1 = (nI nl) from (by rw [oW_o0 ho, tr_o (by omega)]; exact hl)]
    refine a_icmp_geN (tgt := 78) dOrders_findSwapped_29 (by decide) (by omega) (by omega) (fun _ => ?_) (fun c => False.elim (by omega))
    exact hx
  | succ m ih =>
    intro k hk9 s es
    refine a_iload_n 0 dOrders_findSwapped_24 rfl rfl ?_
    refine a_aload_n 2 dOrders_findSwapped_25 rfl rfl ?_
    refine a_geti dOrders_findSwapped_26 fl5_41 rfl (of_l0 ho) (by omega) ?_
    rw [show (oW (trI I o) s) o 1 = (nI nl) from (by rw [oW_o0 ho, tr_o (by omega)]; exact hl)]
    refine a_icmp_geN (tgt := 78) dOrders_findSwapped_29 (by decide) (by omega) (by omega) (fun c => False.elim (by omega)) (fun _ => ?_)
    refine a_iload_n 0 dOrders_findSwapped_32 rfl rfl ?_
    refine a_iconstN (a := 1) dOrders_findSwapped_33 (by decide) ?_
    refine a_iaddN (a := k) (b := 1) dOrders_findSwapped_34 ?_
    refine a_istore_n (lv' := [(3, .int (nI (k + 1))), (2, .int (nI k)), (0, .ref 64), (1, .ref o)]) dOrders_findSwapped_35 rfl (by decide) rfl ?_
    show AW _ _ _ _ _ _ _ [(3, .int (nI (k + 1 + 0))), (2, .int (nI k)), (0, .ref 64), (1, .ref o)] _ _ _ _ _
    refine a_locs (lv' := [(3, .int (nI (k + 1 + 0))), (0, .ref 64), (1, .ref o), (2, .int (nI k))]) [0, 2, 3, 1] rfl ?_
    refine l_swC (s0 := s) hn hR ho hr hon hh hnh hl hnl hW hH hd (t := k) (by omega) ?_ (nl - (k + 1)) 0 (by omega) _ rfl
    refine a_iincN (lv' := [(2, .int (nI (k + 1))), (3, .int (nI (k + 1 + (nl - (k + 1))))), (0, .ref 64), (1, .ref o)]) (j := 3) dOrders_findSwapped_72 rfl (by decide) rfl ?_
    refine a_goto (tgt := 24) dOrders_findSwapped_75 (by decide) ?_
    have ez9 : swD I o nh nl s0 (k + 1) = (swC I o nh nl k s (nl - (k + 1))) := by
      show swDS I o nh nl k (swD I o nh nl s0 k) = _
      rw [es]
      unfold swDS
      rfl
    refine a_locs (lv' := [(2, .int (nI (k + 1))), (0, .ref 64), (1, .ref o)]) [0, 2, 3] rfl ?_
    exact ih (k + 1) (by omega) (swC I o nh nl k s (nl - (k + 1))) ez9
abbrev swS0 (I : mI) (o nh nl : Nat) (w : r5) : r5 := (va_up (tgT I o nh nl (va_up w.1 0 (-1), w.2)).2.1 1 (tgT I o nh nl (va_up w.1 0 (-1), w.2)).1, (tgT I o nh nl (va_up w.1 0 (-1), w.2)).2.2)
abbrev swCT (I : mI) (o nh nl : Nat) (w : r5) : r5 := swD I o nh nl (swS0 I o nh nl w) nl
theorem c_findSwapped {S : Nat × (Nat → Int32)} {d n : Nat} {I : mI} {J : mJ} {R : mR} (hn : 122 ≤ n) (hR : m_fin R) {o nh nl : Nat} (ho : o ∈ m_offs) (hr : offR R o) (hon : o + 8 < n) (hh : I o 0 = nI nh) (hnh : nh ≤ 6) (hl : I o 1 = nI nl) (hnl : nl ≤ 10) (hW : WFc I o nl) (hH : WFh (I (o + 2)) nl) (hd : 80 ≤ o ∨ o + 9 ≤ 71) {w : r5}  : RUN S (d + 6) YOrders_findSwapped [.ref 64, .ref o] (oW I w) J R n none (oW (trI I o) (swCT I o nh nl w)) J R n := by
  show AW S _ YOrders_findSwapped n n _ 0 [(0, .ref 64), (1, .ref o)] [] (oW I w) J R n
  refine a_aload_n 0 dOrders_findSwapped_0 rfl rfl ?_
  refine a_iconst (v := -1) dOrders_findSwapped_1 (by decide) ?_
  refine a_puti dOrders_findSwapped_2 fl5_81 rfl ly_64 (by omega) ?_
  rw [oW_f]
  refine a_aload_n 0 dOrders_findSwapped_5 rfl rfl ?_
  refine a_aload_n 0 dOrders_findSwapped_6 rfl rfl ?_
  refine a_aload_n 1 dOrders_findSwapped_7 rfl rfl ?_
  refine a_callV (Q' := m_res (some (.int (tgT I o nh nl (va_up w.1 0 (-1), w.2)).1)) (oW I (tgT I o nh nl (va_up w.1 0 (-1), w.2)).2) J R) (as := [.ref o]) (st := [.ref 64]) dOrders_findSwapped_8 ml5_73 rfl (Nat.le_of_ble_eq_true rfl) ly_64 rfl rfl (by decide) (by omega) (Nat.le_of_ble_eq_true rfl) rfl (Nat.le_refl _) (Nat.le_refl _) (by have h := c_together (S := S) (d := d + 1) (n := n) (J := J) (R := R) (I := I) (w := (va_up w.1 0 (-1), w.2)) hn hR ho hr hon hh hnh hl hnl hW hH; exact h) (m_go ?_)
  show AW _ _ _ _ _ _ _ _ [.int (tgT I o nh nl (va_up w.1 0 (-1), w.2)).1, .ref 64] _ _ _ _
  refine a_puti dOrders_findSwapped_11 fl5_84 rfl ly_64 (by omega) ?_
  rw [oW_f]
  refine a_aload_n 0 dOrders_findSwapped_14 rfl rfl ?_
  refine a_geta (r := 71) dOrders_findSwapped_15 fl5_33 rfl ly_64 (by omega) (rf_64_9 hR) ?_
  refine a_aload_n 1 dOrders_findSwapped_18 rfl rfl ?_
  refine a_callV (Q' := m_res none (oW (trI I o) (va_up ((tgT I o nh nl (va_up w.1 0 (-1), w.2)).2).1 1 ((tgT I o nh nl (va_up w.1 0 (-1), w.2)).1), ((tgT I o nh nl (va_up w.1 0 (-1), w.2)).2).2)) J R) (as := [.ref o]) (st := []) dOrders_findSwapped_19 ml5_77 rfl (Nat.le_of_ble_eq_true rfl) ly_71 rfl rfl (by decide) (by omega) (Nat.le_of_ble_eq_true rfl) rfl (Nat.le_refl _) (Nat.le_refl _) (by have h := c_Office_copyFrom (S := S) (d := d + 4) (n := n) (J := J) (R := R) (I := (oW I (va_up ((tgT I o nh nl (va_up w.1 0 (-1), w.2)).2).1 1 ((tgT I o nh nl (va_up w.1 0 (-1), w.2)).1), ((tgT I o nh nl (va_up w.1 0 (-1), w.2)).2).2))) (o := 71) (p := o) (by decide) (offR_71 hR) (by omega) ho hr hon (by omega); rw [oW_cp ho] at h; exact h) (m_go ?_)
  show AW _ _ _ _ _ _ _ _ [] _ _ _ _
  refine a_iconstN (a := 0) dOrders_findSwapped_22 (by decide) ?_
  refine a_istore_n (lv' := [(2, .int (nI 0)), (0, .ref 64), (1, .ref o)]) dOrders_findSwapped_23 rfl (by decide) rfl ?_
  refine l_swD (s0 := (swS0 I o nh nl w)) hn hR ho hr hon hh hnh hl hnl hW hH hd ?_ nl 0 (by omega) _ rfl
  exact a_vret dOrders_findSwapped_78 rfl ⟨rfl, rfl, rfl, rfl⟩
theorem sgC_lo {I : mI} {o nh nl : Nat} {nw : Int32} {w : r5} {j : Nat} (hj : j < 5) : ∀ k, (sgC I o nh nl nw w k).2.2.2.2 j = w.2.2.2.2 j := by
  intro k
  induction k with
  | zero => rfl
  | succ k ih =>
    have e : sgC I o nh nl nw w (k + 1) = sgCS I o nh nl nw k (sgC I o nh nl nw w k) := rfl
    rw [e, ← ih]
    unfold sgCS
    repeat' split
    all_goals (first | rfl | exact tgN_lo hj nh)
theorem tyW_lo {I : mI} {o nh nl a b : Nat} {w : r5} {j : Nat} (hj : j < 5) : (tyW I o nh nl a b w).2.2.2.2 j = w.2.2.2.2 j := by
  unfold tyW
  split <;> exact tgN_lo hj nh
theorem swC_lo {I : mI} {o nh nl t : Nat} {w : r5} {j : Nat} (hj : j < 5) : ∀ k, (swC I o nh nl t w k).2.2.2.2 j = w.2.2.2.2 j := by
  intro k
  induction k with
  | zero => rfl
  | succ k ih =>
    have e : swC I o nh nl t w (k + 1) = swCS I o nh nl t k (swC I o nh nl t w k) := rfl
    rw [e, ← ih]
    unfold swCS
    repeat' split
    all_goals (first | rfl | exact tyW_lo hj)
theorem swD_lo {I : mI} {o nh nl : Nat} {w : r5} {j : Nat} (hj : j < 5) : ∀ k, (swD I o nh nl w k).2.2.2.2 j = w.2.2.2.2 j := by
  intro k
  induction k with
  | zero => rfl
  | succ k ih =>
    have e : swD I o nh nl w (k + 1) = swDS I o nh nl k (swD I o nh nl w k) := rfl
    rw [e, ← ih]
    exact swC_lo hj _
theorem sgCT_lo {I : mI} {o nh nl : Nat} {w : r5} {j : Nat} (hj : j < 5) : (sgCT I o nh nl w).2.2.2.2 j = w.2.2.2.2 j := (sgC_lo hj 16).trans (tgN_lo hj nh)
theorem swCT_lo {I : mI} {o nh nl : Nat} {w : r5} {j : Nat} (hj : j < 5) : (swCT I o nh nl w).2.2.2.2 j = w.2.2.2.2 j := (swD_lo hj nl).trans (tgN_lo hj nh)
