def sm2 (g : Nat → Nat × Nat) : Nat → Nat × Nat
  | 0 => (0, 0)
  | k + 1 => ((sm2 g k).1 + (g k).1, (sm2 g k).2 + (g k).2)
/-- a letter comes to a house: what changed, what came last -/
def brC (ds : Nat → Int32 → Int32) (l h : Nat) (ch ls : Nat → Int32) : Nat → Int32 := va_up ch h (ch h + ds l (ls h))
def brL (kd : Nat → Int32) (l h : Nat) (ls : Nat → Int32) : Nat → Int32 := va_up ls h (kd l)
/-- the ways from a letter on, with so many that may still come to any house: those in which no house is lower, all -/
def gsF (ds : Nat → Int32 → Int32) (kd : Nat → Int32) (hm : Nat → Nat) (nh : Nat) : Nat → Nat → Nat → (Nat → Int32) → (Nat → Int32) → Nat × Nat
  | 0, _, _, ch, _ => (if ∀ h, h < nh → 0 ≤ ch h then 1 else 0, 1)
  | f + 1, l, m, ch, ls => ((if m < f + 1 then gsF ds kd hm nh f (l + 1) m (brC ds l (hm l) ch ls) (brL kd l (hm l) ls) else (0, 0)).1 + (if m = 0 then (0, 0) else sm2 (fun h => gsF ds kd hm nh f (l + 1) (m - 1) (brC ds l h ch ls) (brL kd l h ls)) nh).1,
      (if m < f + 1 then gsF ds kd hm nh f (l + 1) m (brC ds l (hm l) ch ls) (brL kd l (hm l) ls) else (0, 0)).2 + (if m = 0 then (0, 0) else sm2 (fun h => gsF ds kd hm nh f (l + 1) (m - 1) (brC ds l h ch ls) (brL kd l h ls)) nh).2)
theorem l_noLow {S : Nat × (Nat → Int32)} {d n : Nat} {I : mI} {J : mJ} {R : mR} (hn : 122 ≤ n) (hR : m_fin R) {o nh nl : Nat} (ho : o ∈ m_offs) (hr : offR R o) (hon : o + 8 < n) (hRo : R 92 2 = some o) (hh : I o 0 = nI nh) (hnh : nh ≤ 6) (hl : I o 1 = nI nl) (hnl : nl ≤ 10) (hW : WFc I o nl) (hH : WFh (I (o + 2)) nl) {ch ls : Nat → Int32}  {Q : Option Value → mI → mJ → mR → Prop} (h0 : ∀ k, k < nh → ¬ (0 ≤ ch k) → Q (some (.int 0)) (m_row (m_row I 93 ch) 94 ls) J R) (hx : (∀ k, k < nh → 0 ≤ ch k) → AW S d YChances_noneIsLower n n Q 30 [(1, .int (nI nh)), (0, .ref 92)] [] (m_row (m_row I 93 ch) 94 ls) J R n) : ∀ m k, k + m = nh → (∀ j, j < k → 0 ≤ ch j) → AW S d YChances_noneIsLower n n Q 2 [(1, .int (nI k)), (0, .ref 92)] [] (m_row (m_row I 93 ch) 94 ls) J R n := by
  intro m
  induction m with
  | zero =>
    intro k hk9 hp
    rw [show k = nh by omega] at hp ⊢
    refine a_iload_n 0 dChances_noneIsLower_2 rfl rfl ?_
    refine a_aload_n 1 dChances_noneIsLower_3 rfl rfl ?_
    refine a_geta (r := o) dChances_noneIsLower_4 fl1_86 rfl ly_92 (by omega) hRo ?_
    refine a_geti dChances_noneIsLower_7 fl1_80 rfl (of_l0 ho) (by omega) ?_
    rw [show (m_row (m_row I 93 ch) 94 ls) o 0 = (nI nh) from ((show (m_row (m_row I 93 ch) 94 ls) o 0 = I o 0 by rw [m_row_ne (oc_ne0 ho (by decide)), m_row_ne (oc_ne0 ho (by decide))]).trans hh)]
    refine a_icmp_geN (tgt := 30) dChances_noneIsLower_10 (by decide) (by omega) (by omega) (fun _ => ?_) (fun c => False.elim (by omega))
    exact hx hp
  | succ m ih =>
    intro k hk9 hp
    refine a_iload_n 0 dChances_noneIsLower_2 rfl rfl ?_
    refine a_aload_n 1 dChances_noneIsLower_3 rfl rfl ?_
    refine a_geta (r := o) dChances_noneIsLower_4 fl1_86 rfl ly_92 (by omega) hRo ?_
    refine a_geti dChances_noneIsLower_7 fl1_80 rfl (of_l0 ho) (by omega) ?_
    rw [show (m_row (m_row I 93 ch) 94 ls) o 0 = (nI nh) from ((show (m_row (m_row I 93 ch) 94 ls) o 0 = I o 0 by rw [m_row_ne (oc_ne0 ho (by decide)), m_row_ne (oc_ne0 ho (by decide))]).trans hh)]
    refine a_icmp_geN (tgt := 30) dChances_noneIsLower_10 (by decide) (by omega) (by omega) (fun c => False.elim (by omega)) (fun _ => ?_)
    refine a_aload_n 1 dChances_noneIsLower_13 rfl rfl ?_
    refine a_geta (r := 93) dChances_noneIsLower_14 fl1_9 rfl ly_92 (by omega) (rf_92_3 hR) ?_
    refine a_iload_n 0 dChances_noneIsLower_17 rfl rfl ?_
    refine a_ialdN (a := k) dChances_noneIsLower_18 ly_93 (by omega) (by omega) (by decide) ?_
    rw [show (m_row (m_row I 93 ch) 94 ls) 93 k = ch k from rfl]
    refine a_if_ge (tgt := 24) dChances_noneIsLower_19 (by decide) (fun c19 => ?_) (fun c19 => ?_)
    · refine a_iincN (lv' := [(1, .int (nI (k + 1))), (0, .ref 92)]) (j := 0) dChances_noneIsLower_24 rfl (by decide) rfl ?_
      refine a_goto (tgt := 2) dChances_noneIsLower_27 (by decide) ?_
      exact ih (k + 1) (by omega) (fun j hj => by
        rcases Nat.lt_or_eq_of_le (Nat.le_of_lt_succ hj) with h1 | h1
        · exact hp j h1
        · subst h1; exact c19)
    · refine a_iconstN (a := 0) dChances_noneIsLower_22 (by decide) ?_
      exact a_zret dChances_noneIsLower_23 rfl (by rfl) (h0 k (by omega) (fun q => absurd q c19))
abbrev nlV (nh : Nat) (ch : Nat → Int32) : Int32 := if ∀ h, h < nh → 0 ≤ ch h then 1 else 0
theorem nlV_z {nh : Nat} {ch : Nat → Int32} (h : nlV nh ch = 0) : ¬ ∀ h, h < nh → 0 ≤ ch h := fun q => by unfold nlV at h; rw [if_pos q] at h; exact absurd h (by decide)
theorem nlV_n {nh : Nat} {ch : Nat → Int32} (h : ¬ nlV nh ch = 0) : ∀ h, h < nh → 0 ≤ ch h := Classical.byContradiction (fun q => h (by unfold nlV; rw [if_neg q]))
theorem nlV_01 (nh : Nat) (ch : Nat → Int32) : nlV nh ch = 0 ∨ nlV nh ch = 1 := by unfold nlV; split <;> simp
theorem c_noneIsLower {S : Nat × (Nat → Int32)} {d n : Nat} {I : mI} {J : mJ} {R : mR} (hn : 122 ≤ n) (hR : m_fin R) {o nh nl : Nat} (ho : o ∈ m_offs) (hr : offR R o) (hon : o + 8 < n) (hRo : R 92 2 = some o) (hh : I o 0 = nI nh) (hnh : nh ≤ 6) (hl : I o 1 = nI nl) (hnl : nl ≤ 10) (hW : WFc I o nl) (hH : WFh (I (o + 2)) nl) {ch ls : Nat → Int32}  : RUN S d YChances_noneIsLower [.ref 92] (m_row (m_row I 93 ch) 94 ls) J R n (some (.int (nlV nh ch))) (m_row (m_row I 93 ch) 94 ls) J R n := by
  show AW S _ YChances_noneIsLower n n _ 0 [(0, .ref 92)] [] (m_row (m_row I 93 ch) 94 ls) J R n
  refine a_iconstN (a := 0) dChances_noneIsLower_0 (by decide) ?_
  refine a_istore_n (lv' := [(1, .int (nI 0)), (0, .ref 92)]) dChances_noneIsLower_1 rfl (by decide) rfl ?_
  refine a_locs (lv' := [(1, .int (nI 0)), (0, .ref 92)]) [0, 1] rfl ?_
  refine l_noLow hn hR ho hr hon hRo hh hnh hl hnl hW hH (fun k hk2 hp => ?_) (fun hp => ?_) nh 0 (by omega) (fun j hj => absurd hj (Nat.not_lt_zero _))
  · exact ⟨by unfold nlV; rw [if_neg (fun q => hp (q k hk2))], rfl, rfl, rfl⟩
  · refine a_iconstN (a := 1) dChances_noneIsLower_30 (by decide) ?_
    exact a_zret dChances_noneIsLower_31 rfl (by rfl) ⟨by unfold nlV; rw [if_pos hp]; rfl, rfl, rfl, rfl⟩
theorem add_sub_s (x y : Int32) : x + y - y = x := Int32.add_sub_cancel x y
theorem va_back {f : Nat → Int32} {h : Nat} {x : Int32} : va_up (va_up f h x) h (f h) = f := by rw [va_uu, va_ui]
theorem va_a9 {α : Type} {f : Nat → α} {h : Nat} {x : α} : va_up f h x h = x := by unfold va_up; rw [if_pos rfl]
theorem c_bringC {S : Nat × (Nat → Int32)} {d n : Nat} {I : mI} {J : mJ} {R : mR} (hn : 122 ≤ n) (hR : m_fin R) {o nh nl : Nat} (ho : o ∈ m_offs) (hr : offR R o) (hon : o + 8 < n) (hRo : R 92 2 = some o) (hh : I o 0 = nI nh) (hnh : nh ≤ 6) (hl : I o 1 = nI nl) (hnl : nl ≤ 10) (hW : WFc I o nl) (hH : WFh (I (o + 2)) nl) {ch ls : Nat → Int32} {a b : Int64} {l h m : Nat} {c : Nat × Nat} (hln : l < nl) (hh6 : h < 6) (hq : kOK (ls h)) (hG : RUN S d YChances_goOn [.ref 92, .int (nI (l + 1)), .int (nI m)] (m_row (m_row I 93 (brC (dsO I o) l h ch ls)) 94 (brL (I (o + 3)) l h ls)) (chJ J a b) R n none (m_row (m_row I 93 (brC (dsO I o) l h ch ls)) 94 (brL (I (o + 3)) l h ls)) (chJ J (a + lN c.1) (b + lN c.2)) R n) : RUN S (d + 1) YChances_bring [.ref 92, .int (nI l), .int (nI h), .int (nI m)] (m_row (m_row I 93 ch) 94 ls) (chJ J a b) R n none (m_row (m_row I 93 ch) 94 ls) (chJ J (a + lN c.1) (b + lN c.2)) R n := by
  show AW S _ YChances_bring n n _ 0 [(0, .ref 92), (1, .int (nI l)), (2, .int (nI h)), (3, .int (nI m))] [] (m_row (m_row I 93 ch) 94 ls) (chJ J a b) R n
  refine a_aload_n 0 dChances_bring_0 rfl rfl ?_
  refine a_geta (r := 94) dChances_bring_1 fl1_15 rfl ly_92 (by omega) (rf_92_4 hR) ?_
  refine a_iload_n 2 dChances_bring_4 rfl rfl ?_
  refine a_ialdN (a := h) dChances_bring_5 ly_94 (by omega) (by omega) (by decide) ?_
  rw [show (m_row (m_row I 93 ch) 94 ls) 94 h = ls h from rfl]
  refine a_istore (lv' := [(4, .int (ls h)), (0, .ref 92), (1, .int (nI l)), (2, .int (nI h)), (3, .int (nI m))]) dChances_bring_6 (by decide) rfl ?_
  refine a_aload_n 1 dChances_bring_8 rfl rfl ?_
  refine a_geta (r := o) dChances_bring_9 fl1_86 rfl ly_92 (by omega) hRo ?_
  refine a_iload_n 2 dChances_bring_12 rfl rfl ?_
  refine a_iload 0 dChances_bring_13 rfl ?_
  refine a_callV (Q' := m_res (some (.int (dsO I o l (ls h)))) (m_row (m_row I 93 ch) 94 ls) (chJ J a b) R) (as := [.int (nI l), .int (ls h)]) (st := []) dChances_bring_15 ml1_60 rfl (Nat.le_of_ble_eq_true rfl) (of_l0 ho) rfl rfl (by decide) (by omega) (Nat.le_of_ble_eq_true rfl) rfl (Nat.le_refl _) (Nat.le_refl _) (by obtain ⟨q9, hq9, e9⟩ := hW l (by omega); have h := c_Office_does (S := S) (d := d) (n := n) (J := (chJ J a b)) (R := R) (I := (m_row (m_row I 93 ch) 94 ls)) ho hr hon (l := l) (q := q9) (x := (ls h)) (by omega) (by rw [off_row ho (by decide) (by decide), off_row ho (by decide) (by decide)]; exact e9) hq9 hq; rw [dsO_row ho (by decide), dsO_row ho (by decide)] at h; exact h) (m_go ?_)
  show AW _ _ _ _ _ _ _ _ [.int (dsO I o l (ls h))] _ _ _ _
  refine a_istore (lv' := [(5, .int (dsO I o l (ls h))), (4, .int (ls h)), (0, .ref 92), (1, .int (nI l)), (2, .int (nI h)), (3, .int (nI m))]) dChances_bring_18 (by decide) rfl ?_
  refine a_aload_n 2 dChances_bring_20 rfl rfl ?_
  refine a_geta (r := 93) dChances_bring_21 fl1_9 rfl ly_92 (by omega) (rf_92_3 hR) ?_
  refine a_iload_n 4 dChances_bring_24 rfl rfl ?_
  refine a_dup2 dChances_bring_25 rfl rfl ?_
  refine a_ialdN (a := h) dChances_bring_26 ly_93 (by omega) (by omega) (by decide) ?_
  rw [show (m_row (m_row I 93 ch) 94 ls) 93 h = ch h from rfl]
  refine a_iload 0 dChances_bring_27 rfl ?_
  refine a_iadd dChances_bring_29 ?_
  refine a_iastN (a := h) dChances_bring_30 ly_93 (by omega) (by omega) (by decide) ?_
  rw [show m_up (m_row (m_row I 93 ch) 94 ls) 93 h ((ch h) + (dsO I o l (ls h))) = (m_row (m_row I 93 (va_up ch h ((ch h) + (dsO I o l (ls h))))) 94 ls) from (by rw [m_up_comm (by decide), m_up_r])]
  refine a_aload_n 2 dChances_bring_31 rfl rfl ?_
  refine a_geta (r := 94) dChances_bring_32 fl1_15 rfl ly_92 (by omega) (rf_92_4 hR) ?_
  refine a_iload_n 4 dChances_bring_35 rfl rfl ?_
  refine a_aload_n 2 dChances_bring_36 rfl rfl ?_
  refine a_geta (r := o) dChances_bring_37 fl1_86 rfl ly_92 (by omega) hRo ?_
  refine a_geta (r := (o + 3)) dChances_bring_40 fl1_57 rfl (of_l0 ho) (by omega) (hr 2 (by decide)) ?_
  refine a_iload_n 3 dChances_bring_43 rfl rfl ?_
  refine a_ialdN (a := l) dChances_bring_44 (of_l3 ho) (by omega) (by omega) (by decide) ?_
  rw [show (m_row (m_row I 93 (va_up ch h ((ch h) + (dsO I o l (ls h))))) 94 ls) (o + 3) l = I (o + 3) l from (by rw [m_row_ne (oc_ne ho (by decide) (by decide)), m_row_ne (oc_ne ho (by decide) (by decide))])]
  refine a_iastN (a := h) dChances_bring_45 ly_94 (by omega) (by omega) (by decide) ?_
  rw [show m_up (m_row (m_row I 93 (va_up ch h ((ch h) + (dsO I o l (ls h))))) 94 ls) 94 h (I (o + 3) l) = (m_row (m_row I 93 (va_up ch h ((ch h) + (dsO I o l (ls h))))) 94 (va_up ls h (I (o + 3) l))) from (by rw [m_up_r])]
  refine a_aload_n 2 dChances_bring_46 rfl rfl ?_
  refine a_iload_n 3 dChances_bring_47 rfl rfl ?_
  refine a_iconstN (a := 1) dChances_bring_48 (by decide) ?_
  refine a_iaddN (a := l) (b := 1) dChances_bring_49 ?_
  refine a_iload_n 5 dChances_bring_50 rfl rfl ?_
  refine a_callV (Q' := m_res none (m_row (m_row I 93 (va_up ch h ((ch h) + (dsO I o l (ls h))))) 94 (va_up ls h (I (o + 3) l))) (chJ J (a + lN c.1) (b + lN c.2)) R) (as := [.int (nI (l + 1)), .int (nI m)]) (st := []) dChances_bring_51 ml1_90 rfl (Nat.le_of_ble_eq_true rfl) ly_92 rfl rfl (by decide) (by omega) (Nat.le_of_ble_eq_true rfl) rfl (Nat.le_refl _) (Nat.le_refl _) (hG) (m_go ?_)
  show AW _ _ _ _ _ _ _ _ [] _ _ _ _
  refine a_aload_n 2 dChances_bring_54 rfl rfl ?_
  refine a_geta (r := 93) dChances_bring_55 fl1_9 rfl ly_92 (by omega) (rf_92_3 hR) ?_
  refine a_iload_n 4 dChances_bring_58 rfl rfl ?_
  refine a_dup2 dChances_bring_59 rfl rfl ?_
  refine a_ialdN (a := h) dChances_bring_60 ly_93 (by omega) (by omega) (by decide) ?_
  rw [show (m_row (m_row I 93 (va_up ch h ((ch h) + (dsO I o l (ls h))))) 94 (va_up ls h (I (o + 3) l))) 93 h = (ch h + dsO I o l (ls h)) from va_a9]
  refine a_iload 0 dChances_bring_61 rfl ?_
  refine a_isub dChances_bring_63 ?_
  refine a_iastN (a := h) dChances_bring_64 ly_93 (by omega) (by omega) (by decide) ?_
  rw [show m_up (m_row (m_row I 93 (va_up ch h ((ch h) + (dsO I o l (ls h))))) 94 (va_up ls h (I (o + 3) l))) 93 h ((ch h + dsO I o l (ls h)) - (dsO I o l (ls h))) = (m_row (m_row I 93 (va_up (va_up ch h ((ch h) + (dsO I o l (ls h)))) h ((ch h + dsO I o l (ls h)) - (dsO I o l (ls h))))) 94 (va_up ls h (I (o + 3) l))) from (by rw [m_up_comm (by decide), m_up_r])]
  refine a_aload_n 2 dChances_bring_65 rfl rfl ?_
  refine a_geta (r := 94) dChances_bring_66 fl1_15 rfl ly_92 (by omega) (rf_92_4 hR) ?_
  refine a_iload_n 4 dChances_bring_69 rfl rfl ?_
  refine a_iload 1 dChances_bring_70 rfl ?_
  refine a_iastN (a := h) dChances_bring_72 ly_94 (by omega) (by omega) (by decide) ?_
  rw [show m_up (m_row (m_row I 93 (va_up (va_up ch h ((ch h) + (dsO I o l (ls h)))) h ((ch h + dsO I o l (ls h)) - (dsO I o l (ls h))))) 94 (va_up ls h (I (o + 3) l))) 94 h (ls h) = (m_row (m_row I 93 (va_up (va_up ch h ((ch h) + (dsO I o l (ls h)))) h ((ch h + dsO I o l (ls h)) - (dsO I o l (ls h))))) 94 (va_up (va_up ls h (I (o + 3) l)) h (ls h))) from (by rw [m_up_r])]
  exact a_vret dChances_bring_73 rfl ⟨rfl, by rw [add_sub_s, va_back, va_back], rfl, rfl⟩
theorem z_goOn {S : Nat × (Nat → Int32)} {d n : Nat} {I : mI} {J : mJ} {R : mR} (hn : 122 ≤ n) (hR : m_fin R) {o nh nl : Nat} (ho : o ∈ m_offs) (hr : offR R o) (hon : o + 8 < n) (hRo : R 92 2 = some o) (hh : I o 0 = nI nh) (hnh : nh ≤ 6) (hl : I o 1 = nI nl) (hnl : nl ≤ 10) (hW : WFc I o nl) (hH : WFh (I (o + 2)) nl) {ch ls : Nat → Int32} {a b : Int64} {m : Nat}  : RUN S (d + 1) YChances_goOn [.ref 92, .int (nI nl), .int (nI m)] (m_row (m_row I 93 ch) 94 ls) (chJ J a b) R n none (m_row (m_row I 93 ch) 94 ls) (chJ J (a + lN (if ∀ h, h < nh → 0 ≤ ch h then 1 else 0)) (b + lN 1)) R n := by
  show AW S _ YChances_goOn n n _ 0 [(0, .ref 92), (1, .int (nI nl)), (2, .int (nI m))] [] (m_row (m_row I 93 ch) 94 ls) (chJ J a b) R n
  refine a_aload_n 0 dChances_goOn_0 rfl rfl ?_
  refine a_geta (r := o) dChances_goOn_1 fl1_86 rfl ly_92 (by omega) hRo ?_
  refine a_geti dChances_goOn_4 fl1_53 rfl (of_l0 ho) (by omega) ?_
  rw [show (m_row (m_row I 93 ch) 94 ls) o 1 = (nI nl) from ((show (m_row (m_row I 93 ch) 94 ls) o 1 = I o 1 by rw [m_row_ne (oc_ne0 ho (by decide)), m_row_ne (oc_ne0 ho (by decide))]).trans hl)]
  refine a_iload_n 1 dChances_goOn_7 rfl rfl ?_
  refine a_isubN dChances_goOn_8 (Nat.le_refl _) ?_
  refine a_istore_n (lv' := [(3, .int (nI (nl - nl))), (0, .ref 92), (1, .int (nI nl)), (2, .int (nI m))]) dChances_goOn_9 rfl (by decide) rfl ?_
  refine a_iload_n 0 dChances_goOn_10 rfl rfl ?_
  refine a_if_gt (tgt := 46) dChances_goOn_11 (by decide) (fun c => False.elim (absurd c (by rw [show nl - nl = 0 by omega]; decide))) (fun _ => ?_)
  refine a_aload_n 1 dChances_goOn_14 rfl rfl ?_
  refine a_dup dChances_goOn_15 rfl ?_
  refine a_getl dChances_goOn_16 fl1_28 rfl ly_92 (by omega) ?_
  rw [show (chJ J a b) 92 1 = b from by rfl]
  refine a_lconst (v := 1) dChances_goOn_19 (by decide) ?_
  refine a_ladd dChances_goOn_20 ?_
  refine a_putl dChances_goOn_21 fl1_28 rfl ly_92 (by omega) ?_
  rw [chJ_b]
  refine a_aload_n 1 dChances_goOn_24 rfl rfl ?_
  refine a_dup dChances_goOn_25 rfl ?_
  refine a_getl dChances_goOn_26 fl1_18 rfl ly_92 (by omega) ?_
  rw [show (chJ J a (b + 1)) 92 0 = a from by rfl]
  refine a_aload_n 1 dChances_goOn_29 rfl rfl ?_
  refine a_callV (Q' := m_res (some (.int (nlV nh ch))) (m_row (m_row I 93 ch) 94 ls) (chJ J a (b + 1)) R) (as := []) (st := [.long a, .ref 92]) dChances_goOn_30 ml1_94 rfl (Nat.le_of_ble_eq_true rfl) ly_92 rfl rfl (by decide) (by omega) (Nat.le_of_ble_eq_true rfl) rfl (Nat.le_refl _) (Nat.le_refl _) (c_noneIsLower hn hR ho hr hon hRo hh hnh hl hnl hW hH) (m_go ?_)
  show AW _ _ _ _ _ _ _ _ [.int (nlV nh ch), .long a, .ref 92] _ _ _ _
  refine a_if_eq (tgt := 40) dChances_goOn_33 (by decide) (fun c33 => ?_) (fun c33 => ?_)
  · refine a_lconst (v := 0) dChances_goOn_40 (by decide) ?_
    refine a_ladd dChances_goOn_41 ?_
    refine a_putl dChances_goOn_42 fl1_18 rfl ly_92 (by omega) ?_
    rw [chJ_a]
    exact a_vret dChances_goOn_45 rfl ⟨rfl, rfl, by rw [if_neg (nlV_z c33)]; rfl, rfl⟩
  · refine a_lconst (v := 1) dChances_goOn_36 (by decide) ?_
    refine a_goto (tgt := 41) dChances_goOn_37 (by decide) ?_
    refine a_ladd dChances_goOn_41 ?_
    refine a_putl dChances_goOn_42 fl1_18 rfl ly_92 (by omega) ?_
    rw [chJ_a]
    exact a_vret dChances_goOn_45 rfl ⟨rfl, rfl, by rw [if_pos (nlV_n c33)]; rfl, rfl⟩
theorem ln_acc (a : Int64) (x y : Nat) : a + lN x + lN y = a + lN (x + y) := by rw [Int64.add_assoc, lN_add]
theorem ln_0 (a : Int64) : a + lN 0 = a := Int64.add_zero a
def glF (a b : Int64) (G : Nat → Nat × Nat) : Nat → Int64 × Int64
  | 0 => (a, b)
  | k + 1 => ((glF a b G k).1 + lN (G k).1, (glF a b G k).2 + lN (G k).2)
theorem glF_s {a b : Int64} {G : Nat → Nat × Nat} : ∀ k, glF a b G k = (a + lN (sm2 G k).1, b + lN (sm2 G k).2) := by
  intro k
  induction k with
  | zero => show (a, b) = (a + lN 0, b + lN 0); rw [ln_0, ln_0]
  | succ k ih =>
    show ((glF a b G k).1 + lN (G k).1, (glF a b G k).2 + lN (G k).2) = (a + lN ((sm2 G k).1 + (G k).1), b + lN ((sm2 G k).2 + (G k).2))
    rw [ih, ← ln_acc, ← ln_acc]
theorem l_goL {S : Nat × (Nat → Int32)} {d n : Nat} {I : mI} {J : mJ} {R : mR} (hn : 122 ≤ n) (hR : m_fin R) {o nh nl : Nat} (ho : o ∈ m_offs) (hr : offR R o) (hon : o + 8 < n) (hRo : R 92 2 = some o) (hh : I o 0 = nI nh) (hnh : nh ≤ 6) (hl : I o 1 = nI nl) (hnl : nl ≤ 10) (hW : WFc I o nl) (hH : WFh (I (o + 2)) nl) {ch ls : Nat → Int32} {a b : Int64} {l mr : Nat} (hln : l < nl) (hm1 : 0 < mr) (hm2 : mr < 2 ^ 31) {G : Nat → Nat × Nat} {A0 : Nat × Nat} (hm0 : mr < nl - l → ∀ a b : Int64, RUN S d YChances_bring [.ref 92, .int (nI l), .int (nI (hmN (I (o + 2)) l)), .int (nI mr)] (m_row (m_row I 93 ch) 94 ls) (chJ J a b) R n none (m_row (m_row I 93 ch) 94 ls) (chJ J (a + lN A0.1) (b + lN A0.2)) R n) (hmh : 0 < mr → ∀ h, h < nh → ∀ a b : Int64, RUN S d YChances_bring [.ref 92, .int (nI l), .int (nI h), .int (nI (mr - 1))] (m_row (m_row I 93 ch) 94 ls) (chJ J a b) R n none (m_row (m_row I 93 ch) 94 ls) (chJ J (a + lN (G h).1) (b + lN (G h).2)) R n)   {Q : Option Value → mI → mJ → mR → Prop}  (hx : AW S (d + 1) YChances_goOn n n Q 101 [(4, .int (nI nh)), (0, .ref 92), (1, .int (nI l)), (2, .int (nI mr)), (3, .int (nI (nl - l)))] [] (m_row (m_row I 93 ch) 94 ls) (chJ J ((glF a b G nh).1) ((glF a b G nh).2)) R n) : ∀ m k, k + m = nh → ∀ s : Int64 × Int64, glF a b G k = s → AW S (d + 1) YChances_goOn n n Q 69 [(4, .int (nI k)), (0, .ref 92), (1, .int (nI l)), (2, .int (nI mr)), (3, .int (nI (nl - l)))] [] (m_row (m_row I 93 ch) 94 ls) (chJ J s.1 s.2) R n := by
  intro m
  induction m with
  | zero =>
    intro k hk9 s es
    rw [show k = nh by omega] at es ⊢
    subst es
    refine a_iload 0 dChances_goOn_69 rfl ?_
    refine a_aload_n 1 dChances_goOn_71 rfl rfl ?_
    refine a_geta (r := o) dChances_goOn_72 fl1_86 rfl ly_92 (by omega) hRo ?_
    refine a_geti dChances_goOn_75 fl1_80 rfl (of_l0 ho) (by omega) ?_
    rw [show (m_row (m_row I 93 ch) 94 ls) o 0 = (nI nh) from ((show (m_row (m_row I 93 ch) 94 ls) o 0 = I o 0 by rw [m_row_ne (oc_ne0 ho (by decide)), m_row_ne (oc_ne0 ho (by decide))]).trans hh)]
    refine a_icmp_geN (tgt := 101) dChances_goOn_78 (by decide) (by omega) (by omega) (fun _ => ?_) (fun c => False.elim (by omega))
    exact hx
  | succ m ih =>
    intro k hk9 s es
    refine a_iload 0 dChances_goOn_69 rfl ?_
    refine a_aload_n 1 dChances_goOn_71 rfl rfl ?_
    refine a_geta (r := o) dChances_goOn_72 fl1_86 rfl ly_92 (by omega) hRo ?_
    refine a_geti dChances_goOn_75 fl1_80 rfl (of_l0 ho) (by omega) ?_
    rw [show (m_row (m_row I 93 ch) 94 ls) o 0 = (nI nh) from ((show (m_row (m_row I 93 ch) 94 ls) o 0 = I o 0 by rw [m_row_ne (oc_ne0 ho (by decide)), m_row_ne (oc_ne0 ho (by decide))]).trans hh)]
    refine a_icmp_geN (tgt := 101) dChances_goOn_78 (by decide) (by omega) (by omega) (fun c => False.elim (by omega)) (fun _ => ?_)
    refine a_iload_n 3 dChances_goOn_81 rfl rfl ?_
    refine a_if_le (tgt := 101) dChances_goOn_82 (by decide) (fun c => False.elim (nI_nle hm1 hm2 c)) (fun _ => ?_)
    refine a_aload_n 1 dChances_goOn_85 rfl rfl ?_
    refine a_iload_n 2 dChances_goOn_86 rfl rfl ?_
    refine a_iload 0 dChances_goOn_87 rfl ?_
    refine a_iload_n 3 dChances_goOn_89 rfl rfl ?_
    refine a_iconstN (a := 1) dChances_goOn_90 (by decide) ?_
    refine a_isubN dChances_goOn_91 (by omega) ?_
    refine a_callV (Q' := m_res none (m_row (m_row I 93 ch) 94 ls) (chJ J (s.1 + lN (G k).1) (s.2 + lN (G k).2)) R) (as := [.int (nI l), .int (nI k), .int (nI (mr - 1))]) (st := []) dChances_goOn_92 ml1_98 rfl (Nat.le_of_ble_eq_true rfl) ly_92 rfl rfl (by decide) (by omega) (Nat.le_of_ble_eq_true rfl) rfl (Nat.le_refl _) (Nat.le_refl _) (hmh hm1 k (by omega) _ _) (m_go ?_)
    show AW _ _ _ _ _ _ _ _ [] _ _ _ _
    refine a_iincN (lv' := [(4, .int (nI (k + 1))), (0, .ref 92), (1, .int (nI l)), (2, .int (nI mr)), (3, .int (nI (nl - l)))]) (j := 0) dChances_goOn_95 rfl (by decide) rfl ?_
    refine a_goto (tgt := 69) dChances_goOn_98 (by decide) ?_
    have ez9 : glF a b G (k + 1) = ((s.1 + lN (G k).1), (s.2 + lN (G k).2)) := by
      unfold glF
      rw [es]
    exact ih (k + 1) (by omega) ((s.1 + lN (G k).1), (s.2 + lN (G k).2)) ez9
theorem s_goOn {S : Nat × (Nat → Int32)} {d n : Nat} {I : mI} {J : mJ} {R : mR} (hn : 122 ≤ n) (hR : m_fin R) {o nh nl : Nat} (ho : o ∈ m_offs) (hr : offR R o) (hon : o + 8 < n) (hRo : R 92 2 = some o) (hh : I o 0 = nI nh) (hnh : nh ≤ 6) (hl : I o 1 = nI nl) (hnl : nl ≤ 10) (hW : WFc I o nl) (hH : WFh (I (o + 2)) nl) {ch ls : Nat → Int32} {a b : Int64} {l mr : Nat} (hln : l < nl) (hm2 : mr < 2 ^ 31) {G : Nat → Nat × Nat} {A0 : Nat × Nat} (hm0 : mr < nl - l → ∀ a b : Int64, RUN S d YChances_bring [.ref 92, .int (nI l), .int (nI (hmN (I (o + 2)) l)), .int (nI mr)] (m_row (m_row I 93 ch) 94 ls) (chJ J a b) R n none (m_row (m_row I 93 ch) 94 ls) (chJ J (a + lN A0.1) (b + lN A0.2)) R n) (hmh : 0 < mr → ∀ h, h < nh → ∀ a b : Int64, RUN S d YChances_bring [.ref 92, .int (nI l), .int (nI h), .int (nI (mr - 1))] (m_row (m_row I 93 ch) 94 ls) (chJ J a b) R n none (m_row (m_row I 93 ch) 94 ls) (chJ J (a + lN (G h).1) (b + lN (G h).2)) R n)  : RUN S (d + 1) YChances_goOn [.ref 92, .int (nI l), .int (nI mr)] (m_row (m_row I 93 ch) 94 ls) (chJ J a b) R n none (m_row (m_row I 93 ch) 94 ls) (chJ J (a + lN ((if mr < nl - l then A0 else (0, 0)).1 + (if mr = 0 then (0, 0) else sm2 G nh).1)) (b + lN ((if mr < nl - l then A0 else (0, 0)).2 + (if mr = 0 then (0, 0) else sm2 G nh).2))) R n := by
  show AW S _ YChances_goOn n n _ 0 [(0, .ref 92), (1, .int (nI l)), (2, .int (nI mr))] [] (m_row (m_row I 93 ch) 94 ls) (chJ J a b) R n
  refine a_aload_n 0 dChances_goOn_0 rfl rfl ?_
  refine a_geta (r := o) dChances_goOn_1 fl1_86 rfl ly_92 (by omega) hRo ?_
  refine a_geti dChances_goOn_4 fl1_53 rfl (of_l0 ho) (by omega) ?_
  rw [show (m_row (m_row I 93 ch) 94 ls) o 1 = (nI nl) from ((show (m_row (m_row I 93 ch) 94 ls) o 1 = I o 1 by rw [m_row_ne (oc_ne0 ho (by decide)), m_row_ne (oc_ne0 ho (by decide))]).trans hl)]
  refine a_iload_n 1 dChances_goOn_7 rfl rfl ?_
  refine a_isubN dChances_goOn_8 (by omega) ?_
  refine a_istore_n (lv' := [(3, .int (nI (nl - l))), (0, .ref 92), (1, .int (nI l)), (2, .int (nI mr))]) dChances_goOn_9 rfl (by decide) rfl ?_
  refine a_iload_n 0 dChances_goOn_10 rfl rfl ?_
  refine a_if_gt (tgt := 46) dChances_goOn_11 (by decide) (fun _ => ?_) (fun c => False.elim (c (by have := nI_lt (a := 0) (b := nl - l) (by omega) (by omega); exact this)))
  refine a_iload_n 3 dChances_goOn_46 rfl rfl ?_
  refine a_iload_n 0 dChances_goOn_47 rfl rfl ?_
  refine a_icmp_geN (tgt := 66) dChances_goOn_48 (by decide) (by omega) (by omega) (fun c48 => ?_) (fun c48 => ?_)
  · refine a_iconstN (a := 0) dChances_goOn_66 (by decide) ?_
    refine a_istore (lv' := [(4, .int (nI 0)), (3, .int (nI (nl - l))), (0, .ref 92), (1, .int (nI l)), (2, .int (nI mr))]) dChances_goOn_67 (by decide) rfl ?_
    by_cases hm1 : 0 < mr
    · refine a_locs (lv' := [(4, .int (nI 0)), (0, .ref 92), (1, .int (nI l)), (2, .int (nI mr)), (3, .int (nI (nl - l)))]) [0, 2, 3, 4, 1] rfl ?_
      refine l_goL (a := a) (b := b) (G := G) (A0 := A0) (mr := mr) (l := l) hn hR ho hr hon hRo hh hnh hl hnl hW hH hln hm1 hm2 hm0 hmh ?_ nh 0 (by omega) _ rfl
      rw [glF_s]
      exact a_vret dChances_goOn_101 rfl ⟨rfl, rfl, by rw [if_neg (show ¬ mr < nl - l by omega), if_neg (show ¬ mr = 0 by omega)]; rw [show ((0 : Nat), (0 : Nat)).1 = 0 from rfl, show ((0 : Nat), (0 : Nat)).2 = 0 from rfl, Nat.zero_add, Nat.zero_add], rfl⟩
    · have hmz : mr = 0 := by omega
      refine a_iload 0 dChances_goOn_69 rfl ?_
      refine a_aload_n 2 dChances_goOn_71 rfl rfl ?_
      refine a_geta (r := o) dChances_goOn_72 fl1_86 rfl ly_92 (by omega) hRo ?_
      refine a_geti dChances_goOn_75 fl1_80 rfl (of_l0 ho) (by omega) ?_
      rw [show (m_row (m_row I 93 ch) 94 ls) o 0 = (nI nh) from ((show (m_row (m_row I 93 ch) 94 ls) o 0 = I o 0 by rw [m_row_ne (oc_ne0 ho (by decide)), m_row_ne (oc_ne0 ho (by decide))]).trans hh)]
      refine a_icmp_geN (tgt := 101) dChances_goOn_78 (by decide) (by omega) (by omega) (fun c78 => ?_) (fun c78 => ?_)
      · exact a_vret dChances_goOn_101 rfl ⟨rfl, rfl, by rw [if_neg (show ¬ mr < nl - l by omega), if_pos hmz]; rw [show ((0 : Nat), (0 : Nat)).1 = 0 from rfl, show ((0 : Nat), (0 : Nat)).2 = 0 from rfl, ln_0, ln_0], rfl⟩
      · refine a_iload_n 4 dChances_goOn_81 rfl rfl ?_
        refine a_if_le (tgt := 101) dChances_goOn_82 (by decide) (fun _ => ?_) (fun c => False.elim (c (by rw [hmz]; decide)))
        exact a_vret dChances_goOn_101 rfl ⟨rfl, rfl, by rw [if_neg (show ¬ mr < nl - l by omega), if_pos hmz]; rw [show ((0 : Nat), (0 : Nat)).1 = 0 from rfl, show ((0 : Nat), (0 : Nat)).2 = 0 from rfl, ln_0, ln_0], rfl⟩
  · refine a_aload_n 1 dChances_goOn_51 rfl rfl ?_
    refine a_iload_n 2 dChances_goOn_52 rfl rfl ?_
    refine a_aload_n 1 dChances_goOn_53 rfl rfl ?_
    refine a_geta (r := o) dChances_goOn_54 fl1_86 rfl ly_92 (by omega) hRo ?_
    refine a_geta (r := (o + 2)) dChances_goOn_57 fl1_83 rfl (of_l0 ho) (by omega) (hr 1 (by decide)) ?_
    refine a_iload_n 2 dChances_goOn_60 rfl rfl ?_
    refine a_ialdN (a := l) dChances_goOn_61 (of_l2 ho) (by omega) (by omega) (by decide) ?_
    rw [show (m_row (m_row I 93 ch) 94 ls) (o + 2) l = I (o + 2) l from (by rw [m_row_ne (oc_ne ho (by decide) (by decide)), m_row_ne (oc_ne ho (by decide) (by decide))])]
    rw [show (I (o + 2) l) = (nI (hmN (I (o + 2)) l)) from (hH.hm hln).1]
    refine a_iload_n 3 dChances_goOn_62 rfl rfl ?_
    refine a_callV (Q' := m_res none (m_row (m_row I 93 ch) 94 ls) (chJ J (a + lN A0.1) (b + lN A0.2)) R) (as := [.int (nI l), .int (nI (hmN (I (o + 2)) l)), .int (nI mr)]) (st := []) dChances_goOn_63 ml1_98 rfl (Nat.le_of_ble_eq_true rfl) ly_92 rfl rfl (by decide) (by omega) (Nat.le_of_ble_eq_true rfl) rfl (Nat.le_refl _) (Nat.le_refl _) (hm0 (by omega) _ _) (m_go ?_)
    show AW _ _ _ _ _ _ _ _ [] _ _ _ _
    refine a_iconstN (a := 0) dChances_goOn_66 (by decide) ?_
    refine a_istore (lv' := [(4, .int (nI 0)), (3, .int (nI (nl - l))), (0, .ref 92), (1, .int (nI l)), (2, .int (nI mr))]) dChances_goOn_67 (by decide) rfl ?_
    by_cases hm1 : 0 < mr
    · refine a_locs (lv' := [(4, .int (nI 0)), (0, .ref 92), (1, .int (nI l)), (2, .int (nI mr)), (3, .int (nI (nl - l)))]) [0, 2, 3, 4, 1] rfl ?_
      refine l_goL (a := a + lN A0.1) (b := b + lN A0.2) (G := G) (A0 := A0) (mr := mr) (l := l) hn hR ho hr hon hRo hh hnh hl hnl hW hH hln hm1 hm2 hm0 hmh ?_ nh 0 (by omega) _ rfl
      rw [glF_s]
      exact a_vret dChances_goOn_101 rfl ⟨rfl, rfl, by rw [if_pos (show mr < nl - l by omega), if_neg (show ¬ mr = 0 by omega)]; rw [← ln_acc, ← ln_acc], rfl⟩
    · have hmz : mr = 0 := by omega
      refine a_iload 0 dChances_goOn_69 rfl ?_
      refine a_aload_n 2 dChances_goOn_71 rfl rfl ?_
      refine a_geta (r := o) dChances_goOn_72 fl1_86 rfl ly_92 (by omega) hRo ?_
      refine a_geti dChances_goOn_75 fl1_80 rfl (of_l0 ho) (by omega) ?_
      rw [show (m_row (m_row I 93 ch) 94 ls) o 0 = (nI nh) from ((show (m_row (m_row I 93 ch) 94 ls) o 0 = I o 0 by rw [m_row_ne (oc_ne0 ho (by decide)), m_row_ne (oc_ne0 ho (by decide))]).trans hh)]
      refine a_icmp_geN (tgt := 101) dChances_goOn_78 (by decide) (by omega) (by omega) (fun c78 => ?_) (fun c78 => ?_)
      · exact a_vret dChances_goOn_101 rfl ⟨rfl, rfl, by rw [if_pos (show mr < nl - l by omega), if_pos hmz]; rw [show ((0 : Nat), (0 : Nat)).1 = 0 from rfl, show ((0 : Nat), (0 : Nat)).2 = 0 from rfl, Nat.add_zero, Nat.add_zero], rfl⟩
      · refine a_iload_n 4 dChances_goOn_81 rfl rfl ?_
        refine a_if_le (tgt := 101) dChances_goOn_82 (by decide) (fun _ => ?_) (fun c => False.elim (c (by rw [hmz]; decide)))
        exact a_vret dChances_goOn_101 rfl ⟨rfl, rfl, by rw [if_pos (show mr < nl - l by omega), if_pos hmz]; rw [show ((0 : Nat), (0 : Nat)).1 = 0 from rfl, show ((0 : Nat), (0 : Nat)).2 = 0 from rfl, Nat.add_zero, Nat.add_zero], rfl⟩
theorem brL_ok {I : mI} {o nl l h : Nat} {ls : Nat → Int32} (hW : WFc I o nl) (hln : l < nl) (hL : WFl ls) : WFl (brL (I (o + 3)) l h ls) := fun q hq => by
  unfold brL va_up
  split
  · exact hW.kok hln
  · exact hL q hq
abbrev gsC (I : mI) (o nh : Nat) (f l m : Nat) (ch ls : Nat → Int32) : Nat × Nat := gsF (dsO I o) (I (o + 3)) (hmN (I (o + 2))) nh f l m ch ls
theorem c_goOn {S : Nat × (Nat → Int32)} {d n : Nat} {I : mI} {J : mJ} {R : mR} (hn : 122 ≤ n) (hR : m_fin R) {o nh nl : Nat} (ho : o ∈ m_offs) (hr : offR R o) (hon : o + 8 < n) (hRo : R 92 2 = some o) (hh : I o 0 = nI nh) (hnh : nh ≤ 6) (hl : I o 1 = nI nl) (hnl : nl ≤ 10) (hW : WFc I o nl) (hH : WFh (I (o + 2)) nl) : ∀ f l m (ch ls : Nat → Int32) (a b : Int64), l + f = nl → m < 2 ^ 31 → WFl ls → RUN S (d + 2 * f + 1) YChances_goOn [.ref 92, .int (nI l), .int (nI m)] (m_row (m_row I 93 ch) 94 ls) (chJ J a b) R n none (m_row (m_row I 93 ch) 94 ls) (chJ J (a + lN (gsC I o nh f l m ch ls).1) (b + lN (gsC I o nh f l m ch ls).2)) R n := by
  intro f
  induction f with
  | zero =>
    intro l m ch ls a b hf hm hL
    rw [show l = nl by omega]
    exact z_goOn hn hR ho hr hon hRo hh hnh hl hnl hW hH
  | succ f ih =>
    intro l m ch ls a b hf hm hL
    have hln : l < nl := by omega
    rw [show d + 2 * (f + 1) + 1 = (d + 2 * f + 1 + 1) + 1 by omega]
    have h := s_goOn (S := S) (d := d + 2 * f + 1 + 1) (J := J) (ch := ch) (ls := ls) (a := a) (b := b) (l := l) (mr := m) (G := fun h => gsC I o nh f (l + 1) (m - 1) (brC (dsO I o) l h ch ls) (brL (I (o + 3)) l h ls)) (A0 := gsC I o nh f (l + 1) m (brC (dsO I o) l (hmN (I (o + 2)) l) ch ls) (brL (I (o + 3)) l (hmN (I (o + 2)) l) ls)) hn hR ho hr hon hRo hh hnh hl hnl hW hH hln hm
      (fun _ a b => c_bringC hn hR ho hr hon hRo hh hnh hl hnl hW hH hln (hH.hm hln).2 (hL _ (hH.hm hln).2) (ih (l + 1) m _ _ a b (by omega) hm (brL_ok hW hln hL)))
      (fun _ h hh2 a b => c_bringC hn hR ho hr hon hRo hh hnh hl hnl hW hH hln (by omega) (hL _ (by omega)) (ih (l + 1) (m - 1) _ _ a b (by omega) (by omega) (brL_ok hW hln hL)))
    rw [show nl - l = f + 1 by omega] at h
    exact h
theorem fin_92 {R : mR} {o : Nat} (h : m_fin R) : m_fin (m_up R 92 2 (some o)) := m_fin_up h (by decide +kernel)
theorem offR_92 {R : mR} {o v : Nat} (ho : o ∈ m_offs) (h : offR R o) : offR (m_up R 92 2 (some v)) o := fun k hk => by
  rw [m_up_ne (oc_ne0 ho (by decide))]
  exact h k hk
abbrev skC (I : mI) (o nh nl q : Nat) (f g : Nat → Int32) : Nat × Nat := gsC I o nh nl 0 q (m_fill (fun _ => 0) f 6) (m_fill (fun _ => -1) g 6)
theorem fill_WFl {f : Nat → Int32} : WFl (m_fill (fun _ => (-1 : Int32)) f 6) := fill_ok
theorem M9394 {I : mI} : m_row (m_row I 93 (I 93)) 94 (I 94) = I := by
  rw [m_row_id (M := m_row I 93 (I 93)) (n := 94) (f := I 94) rfl, m_row_self]
theorem c_findStrike {S : Nat × (Nat → Int32)} {d n : Nat} {I : mI} {J : mJ} {R : mR} (hn : 122 ≤ n) (hR : m_fin R) {o nh nl : Nat} (ho : o ∈ m_offs) (hr : offR R o) (hon : o + 8 < n) (hh : I o 0 = nI nh) (hnh : nh ≤ 6) (hl : I o 1 = nI nl) (hnl : nl ≤ 10) (hW : WFc I o nl) (hH : WFh (I (o + 2)) nl) {q : Nat} (hq : q ≤ 10) : RUN S (d + 22) YChances_findStrike [.ref 92, .ref o, .int (nI q)] I J R n none (m_row (m_row I 93 (m_fill (fun _ => 0) (I 93) 6)) 94 (m_fill (fun _ => -1) (I 94) 6)) (chJ J (0 + lN (skC I o nh nl q (I 93) (I 94)).1) (0 + lN (skC I o nh nl q (I 93) (I 94)).2)) (m_up R 92 2 (some o)) n := by
  have hR' := fin_92 (o := o) hR
  have hr' := offR_92 (v := o) ho hr
  have hRo' : m_up R 92 2 (some o) 92 2 = some o := m_up_at
  refine a_mem (M9394 (I := I)).symm ?_
  show AW S _ YChances_findStrike n n _ 0 [(0, .ref 92), (1, .ref o), (2, .int (nI q))] [] (m_row (m_row I 93 (I 93)) 94 (I 94)) J R n
  refine a_aload_n 0 dChances_findStrike_0 rfl rfl ?_
  refine a_aload_n 1 dChances_findStrike_1 rfl rfl ?_
  refine a_puta dChances_findStrike_2 fl1_86 rfl rfl (fun h => by cases h) ly_92 (by omega) ?_
  refine a_aload_n 0 dChances_findStrike_5 rfl rfl ?_
  refine a_lconst (v := 0) dChances_findStrike_6 (by decide) ?_
  refine a_putl dChances_findStrike_7 fl1_18 rfl ly_92 (by omega) ?_
  rw [chJ_a0]
  refine a_aload_n 0 dChances_findStrike_10 rfl rfl ?_
  refine a_lconst (v := 0) dChances_findStrike_11 (by decide) ?_
  refine a_putl dChances_findStrike_12 fl1_28 rfl ly_92 (by omega) ?_
  rw [chJ_b]
  refine a_aload_n 0 dChances_findStrike_15 rfl rfl ?_
  refine a_geta (r := 93) dChances_findStrike_16 fl1_9 rfl ly_92 (by omega) (rf_92_3 hR') ?_
  refine a_iconstN (a := 0) dChances_findStrike_19 (by decide) ?_
  refine a_callS (Q' := m_res none (m_row (m_row I 93 (m_fill (fun _ => (nI 0)) (I 93) 6)) 94 (I 94)) (chJ J 0 0) (m_up R 92 2 (some o))) (as := [.ref 93, .int (nI 0)]) (st := []) dChances_findStrike_20 ml1_74 rfl (Nat.le_of_ble_eq_true rfl) (Nat.le_of_ble_eq_true rfl) rfl (Nat.le_refl _) (Nat.le_refl _) (by have h := c_Arrays_fill (S := S) (d := d + 21) (n := n) (J := (chJ J 0 0)) (R := (m_up R 92 2 (some o))) (I := (m_row (m_row I 93 (I 93)) 94 (I 94))) (a := 93) (N := 6) (x := (nI 0)) ly_93 (by omega) (by decide); rw [m_row_c (a := 94) (b := 93) (by decide), m_row_row] at h; exact h) (m_go ?_)
  show AW _ _ _ _ _ _ _ _ [] _ _ _ _
  refine a_aload_n 0 dChances_findStrike_23 rfl rfl ?_
  refine a_geta (r := 94) dChances_findStrike_24 fl1_15 rfl ly_92 (by omega) (rf_92_4 hR') ?_
  refine a_iconst (v := -1) dChances_findStrike_27 (by decide) ?_
  refine a_callS (Q' := m_res none (m_row (m_row I 93 (m_fill (fun _ => (nI 0)) (I 93) 6)) 94 (m_fill (fun _ => (-1)) (I 94) 6)) (chJ J 0 0) (m_up R 92 2 (some o))) (as := [.ref 94, .int (-1)]) (st := []) dChances_findStrike_28 ml1_74 rfl (Nat.le_of_ble_eq_true rfl) (Nat.le_of_ble_eq_true rfl) rfl (Nat.le_refl _) (Nat.le_refl _) (by have h := c_Arrays_fill (S := S) (d := d + 21) (n := n) (J := (chJ J 0 0)) (R := (m_up R 92 2 (some o))) (I := (m_row (m_row I 93 (m_fill (fun _ => (nI 0)) (I 93) 6)) 94 (I 94))) (a := 94) (N := 6) (x := (-1)) ly_94 (by omega) (by decide); rw [m_row_row] at h; exact h) (m_go ?_)
  show AW _ _ _ _ _ _ _ _ [] _ _ _ _
  refine a_aload_n 0 dChances_findStrike_31 rfl rfl ?_
  refine a_iconstN (a := 0) dChances_findStrike_32 (by decide) ?_
  refine a_iload_n 2 dChances_findStrike_33 rfl rfl ?_
  refine a_callV (Q' := m_res none (m_row (m_row I 93 (m_fill (fun _ => (nI 0)) (I 93) 6)) 94 (m_fill (fun _ => (-1)) (I 94) 6)) (chJ J (0 + lN (skC I o nh nl q (I 93) (I 94)).1) (0 + lN (skC I o nh nl q (I 93) (I 94)).2)) (m_up R 92 2 (some o))) (as := [.int (nI 0), .int (nI q)]) (st := []) dChances_findStrike_34 ml1_90 rfl (Nat.le_of_ble_eq_true rfl) ly_92 rfl rfl (by decide) (by omega) (Nat.le_of_ble_eq_true rfl) rfl (Nat.le_refl _) (Nat.le_refl _) (by have h := c_goOn (S := S) (d := d + 20 - 2 * nl) (J := J) (I := I) hn hR' ho hr' hon hRo' hh hnh hl hnl hW hH nl 0 q (m_fill (fun _ => nI 0) (I 93) 6) (m_fill (fun _ => -1) (I 94) 6) 0 0 (by omega) (by omega) fill_WFl; rw [show d + 20 - 2 * nl + 2 * nl + 1 = d + 21 by omega] at h; exact h) (m_go ?_)
  show AW _ _ _ _ _ _ _ _ [] _ _ _ _
  exact a_vret dChances_findStrike_37 rfl ⟨rfl, rfl, rfl, rfl⟩
