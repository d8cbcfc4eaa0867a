/-- the letter, or the house, that is sure -/
def suR (I : mI) (fo : Nat) (u : Int32) : Int32 := suN I u (if fo = 0 ∨ hmN (I 117) (fo - 1) = 99 then -1 else if u = 0 then nI (hmN (I 117) 0 / 10) else nI (hmN (I 117) 0 % 10)) (fo - 1)
theorem c_M_sureOf {S : Nat × (Nat → Int32)} {d n : Nat} {I : mI} {J : mJ} {R : mR} (hn : 122 ≤ n) (hR : m_fin R) {fo : Nat} (hfo : I 95 49 = nI fo) (hf61 : fo ≤ 61) (hft : ∀ k, k < fo → I 117 k = nI (hmN (I 117) k) ∧ (hmN (I 117) k < 60 ∨ hmN (I 117) k = 99)) {u : Int32}  : RUN S d YM_sureOf [.ref 95, .int u] I J R n (some (.int (suR I fo u))) I J R n := by
  show AW S _ YM_sureOf n n _ 0 [(0, .ref 95), (1, .int u)] [] I J R n
  have hz : nI fo = 0 → fo = 0 := fun q => (nI_eq (a := fo) (b := 0) (by omega) (by decide)).mp q
  have hp : ¬ nI fo = 0 → 0 < fo := fun q => Nat.pos_of_ne_zero (fun z => q (by rw [z]; rfl))
  refine a_aload_n 0 dM_sureOf_0 rfl rfl ?_
  refine a_geti dM_sureOf_1 fl12_447 rfl ly_95 (by omega) ?_
  rw [show I 95 49 = (nI fo) from hfo]
  refine a_if_eq (tgt := 23) dM_sureOf_4 (by decide) (fun c4 => ?_) (fun c4 => ?_)
  · refine a_iconst (v := -1) dM_sureOf_23 (by decide) ?_
    refine a_goto (tgt := 52) dM_sureOf_24 (by decide) ?_
    refine a_istore_n (lv' := [(2, .int (-1)), (0, .ref 95), (1, .int u)]) dM_sureOf_52 rfl (by decide) rfl ?_
    refine a_iconstN (a := 1) dM_sureOf_53 (by decide) ?_
    refine a_istore_n (lv' := [(3, .int (nI 1)), (2, .int (-1)), (0, .ref 95), (1, .int u)]) dM_sureOf_54 rfl (by decide) rfl ?_
    have e0 : (if fo = 0 ∨ hmN (I 117) (fo - 1) = 99 then -1 else if u = 0 then nI (hmN (I 117) 0 / 10) else nI (hmN (I 117) 0 % 10)) = (-1) := by rw [if_pos (Or.inl (hz c4))]
    refine l_suN (s0 := (-1)) hn hR hfo hf61 hft (u := u) ?_ (fo - 1) 0 (by omega) _ rfl
    refine a_iload_n 1 dM_sureOf_104 rfl rfl ?_
    exact a_iret dM_sureOf_105 rfl ⟨by unfold suR; rw [e0], rfl, rfl, rfl⟩
  · have hp4 := hp c4
    have g0 := (hft 0 hp4).2
    have g1 := (hft (fo - 1) (by omega)).2
    refine a_aload_n 0 dM_sureOf_7 rfl rfl ?_
    refine a_geta (r := 117) dM_sureOf_8 fl12_75 rfl ly_95 (by omega) (rf_95_48 hR) ?_
    refine a_aload_n 0 dM_sureOf_11 rfl rfl ?_
    refine a_geti dM_sureOf_12 fl12_447 rfl ly_95 (by omega) ?_
    rw [show I 95 49 = (nI fo) from hfo]
    refine a_iconstN (a := 1) dM_sureOf_15 (by decide) ?_
    refine a_isubN dM_sureOf_16 (by have := hp c4; omega) ?_
    refine a_ialdN (a := (fo - 1)) dM_sureOf_17 ly_117 (by omega) (by have := hp c4; omega) (by decide) ?_
    rw [show I 117 (fo - 1) = I 117 (fo - 1) from rfl]
    rw [show (I 117 (fo - 1)) = (nI (hmN (I 117) (fo - 1))) from (hft (fo - 1) (by have := hp c4; omega)).1]
    refine a_bipushN (a := 99) dM_sureOf_18 (by decide) ?_
    refine a_icmp_neN (tgt := 27) dM_sureOf_20 (by decide) (by omega) (by omega) (fun c20 => ?_) (fun c20 => ?_)
    · refine a_iload_n 1 dM_sureOf_27 rfl rfl ?_
      refine a_if_eq (tgt := 43) dM_sureOf_28 (by decide) (fun c28 => ?_) (fun c28 => ?_)
      · refine a_aload_n 0 dM_sureOf_43 rfl rfl ?_
        refine a_geta (r := 117) dM_sureOf_44 fl12_75 rfl ly_95 (by omega) (rf_95_48 hR) ?_
        refine a_iconstN (a := 0) dM_sureOf_47 (by decide) ?_
        refine a_ialdN (a := 0) dM_sureOf_48 ly_117 (by omega) (by omega) (by decide) ?_
        rw [show I 117 0 = I 117 0 from rfl]
        rw [show (I 117 0) = (nI (hmN (I 117) 0)) from (hft 0 (hp c4)).1]
        refine a_bipushN (a := 10) dM_sureOf_49 (by decide) ?_
        refine a_idivN dM_sureOf_51 (by omega) (by omega) (by omega) ?_
        refine a_istore_n (lv' := [(2, .int (nI ((hmN (I 117) 0) / 10))), (0, .ref 95), (1, .int u)]) dM_sureOf_52 rfl (by decide) rfl ?_
        refine a_iconstN (a := 1) dM_sureOf_53 (by decide) ?_
        refine a_istore_n (lv' := [(3, .int (nI 1)), (2, .int (nI ((hmN (I 117) 0) / 10))), (0, .ref 95), (1, .int u)]) dM_sureOf_54 rfl (by decide) rfl ?_
        have e0 : (if fo = 0 ∨ hmN (I 117) (fo - 1) = 99 then -1 else if u = 0 then nI (hmN (I 117) 0 / 10) else nI (hmN (I 117) 0 % 10)) = (nI ((hmN (I 117) 0) / 10)) := by rw [if_neg (show ¬ (fo = 0 ∨ hmN (I 117) (fo - 1) = 99) by omega), if_pos c28]
        refine l_suN (s0 := (nI ((hmN (I 117) 0) / 10))) hn hR hfo hf61 hft (u := u) ?_ (fo - 1) 0 (by omega) _ rfl
        refine a_iload_n 1 dM_sureOf_104 rfl rfl ?_
        exact a_iret dM_sureOf_105 rfl ⟨by unfold suR; rw [e0], rfl, rfl, rfl⟩
      · refine a_aload_n 0 dM_sureOf_31 rfl rfl ?_
        refine a_geta (r := 117) dM_sureOf_32 fl12_75 rfl ly_95 (by omega) (rf_95_48 hR) ?_
        refine a_iconstN (a := 0) dM_sureOf_35 (by decide) ?_
        refine a_ialdN (a := 0) dM_sureOf_36 ly_117 (by omega) (by omega) (by decide) ?_
        rw [show I 117 0 = I 117 0 from rfl]
        rw [show (I 117 0) = (nI (hmN (I 117) 0)) from (hft 0 (hp c4)).1]
        refine a_bipushN (a := 10) dM_sureOf_37 (by decide) ?_
        refine a_iremN dM_sureOf_39 (by omega) (by omega) (by omega) ?_
        refine a_goto (tgt := 52) dM_sureOf_40 (by decide) ?_
        refine a_istore_n (lv' := [(2, .int (nI ((hmN (I 117) 0) % 10))), (0, .ref 95), (1, .int u)]) dM_sureOf_52 rfl (by decide) rfl ?_
        refine a_iconstN (a := 1) dM_sureOf_53 (by decide) ?_
        refine a_istore_n (lv' := [(3, .int (nI 1)), (2, .int (nI ((hmN (I 117) 0) % 10))), (0, .ref 95), (1, .int u)]) dM_sureOf_54 rfl (by decide) rfl ?_
        have e0 : (if fo = 0 ∨ hmN (I 117) (fo - 1) = 99 then -1 else if u = 0 then nI (hmN (I 117) 0 / 10) else nI (hmN (I 117) 0 % 10)) = (nI ((hmN (I 117) 0) % 10)) := by rw [if_neg (show ¬ (fo = 0 ∨ hmN (I 117) (fo - 1) = 99) by omega), if_neg c28]
        refine l_suN (s0 := (nI ((hmN (I 117) 0) % 10))) hn hR hfo hf61 hft (u := u) ?_ (fo - 1) 0 (by omega) _ rfl
        refine a_iload_n 1 dM_sureOf_104 rfl rfl ?_
        exact a_iret dM_sureOf_105 rfl ⟨by unfold suR; rw [e0], rfl, rfl, rfl⟩
    · refine a_iconst (v := -1) dM_sureOf_23 (by decide) ?_
      refine a_goto (tgt := 52) dM_sureOf_24 (by decide) ?_
      refine a_istore_n (lv' := [(2, .int (-1)), (0, .ref 95), (1, .int u)]) dM_sureOf_52 rfl (by decide) rfl ?_
      refine a_iconstN (a := 1) dM_sureOf_53 (by decide) ?_
      refine a_istore_n (lv' := [(3, .int (nI 1)), (2, .int (-1)), (0, .ref 95), (1, .int u)]) dM_sureOf_54 rfl (by decide) rfl ?_
      have e0 : (if fo = 0 ∨ hmN (I 117) (fo - 1) = 99 then -1 else if u = 0 then nI (hmN (I 117) 0 / 10) else nI (hmN (I 117) 0 % 10)) = (-1) := by rw [if_pos (Or.inr (by omega))]
      refine l_suN (s0 := (-1)) hn hR hfo hf61 hft (u := u) ?_ (fo - 1) 0 (by omega) _ rfl
      refine a_iload_n 1 dM_sureOf_104 rfl rfl ?_
      exact a_iret dM_sureOf_105 rfl ⟨by unfold suR; rw [e0], rfl, rfl, rfl⟩
def lgAS (I : mI) (h t : Nat) (k : Nat) (s : Nat) : Nat := (if (I 118 ((6 * k) + h)) = (I 118 ((6 * t) + h)) then (s + 1) else (s + 0))
def lgA (I : mI) (h t : Nat) (s0 : Nat) : Nat → Nat
  | 0 => s0
  | k + 1 => lgAS I h t k (lgA I h t s0 k)
theorem l_lgA {S : Nat × (Nat → Int32)} {d n : Nat} {I : mI} {J : mJ} {R : mR} (hn : 122 ≤ n) (hR : m_fin R) {fo : Nat} (hfo : I 95 49 = nI fo) (hf61 : fo ≤ 61) {h : Nat} (hh6 : h < 6) {t : Nat} {mst : Int32} (ht : t < fo)  {s0 : Nat} {Q : Option Value → mI → mJ → mR → Prop}  (hx : AW S (d + 1) YM_largest n n Q 69 [(5, .int (nI fo)), (4, .int (nI (lgA I h t s0 fo))), (0, .ref 95), (1, .int (nI h)), (2, .int mst), (3, .int (nI t))] [] I J R n) : ∀ m k, k + m = fo → ∀ s : Nat, lgA I h t s0 k = s → AW S (d + 1) YM_largest n n Q 18 [(5, .int (nI k)), (4, .int (nI s)), (0, .ref 95), (1, .int (nI h)), (2, .int mst), (3, .int (nI t))] [] I J R n := by
  intro m
  induction m with
  | zero =>
    intro k hk9 s es
    rw [show k = fo by omega] at es ⊢
    subst es
    refine a_iload 0 dM_largest_18 rfl ?_
    refine a_aload_n 2 dM_largest_20 rfl rfl ?_
    refine a_geti dM_largest_21 fl12_447 rfl ly_95 (by omega) ?_
    rw [show I 95 49 = (nI fo) from hfo]
    refine a_icmp_geN (tgt := 69) dM_largest_24 (by decide) (by omega) (by omega) (fun _ => ?_) (fun c => False.elim (by omega))
    exact hx
  | succ m ih =>
    intro k hk9 s es
    refine a_iload 0 dM_largest_18 rfl ?_
    refine a_aload_n 2 dM_largest_20 rfl rfl ?_
    refine a_geti dM_largest_21 fl12_447 rfl ly_95 (by omega) ?_
    rw [show I 95 49 = (nI fo) from hfo]
    refine a_icmp_geN (tgt := 69) dM_largest_24 (by decide) (by omega) (by omega) (fun c => False.elim (by omega)) (fun _ => ?_)
    refine a_iload 1 dM_largest_27 rfl ?_
    refine a_aload_n 2 dM_largest_29 rfl rfl ?_
    refine a_geta (r := 118) dM_largest_30 fl12_78 rfl ly_95 (by omega) (rf_95_50 hR) ?_
    refine a_bipushN (a := 6) dM_largest_33 (by decide) ?_
    refine a_iload 0 dM_largest_35 rfl ?_
    refine a_imulN (a := 6) (b := k) dM_largest_37 ?_
    refine a_iload_n 3 dM_largest_38 rfl rfl ?_
    refine a_iaddN (a := (6 * k)) (b := h) dM_largest_39 ?_
    refine a_ialdN (a := ((6 * k) + h)) dM_largest_40 ly_118 (by omega) (by omega) (by decide) ?_
    rw [show I 118 ((6 * k) + h) = I 118 ((6 * k) + h) from rfl]
    refine a_aload_n 2 dM_largest_41 rfl rfl ?_
    refine a_geta (r := 118) dM_largest_42 fl12_78 rfl ly_95 (by omega) (rf_95_50 hR) ?_
    refine a_bipushN (a := 6) dM_largest_45 (by decide) ?_
    refine a_iload_n 5 dM_largest_47 rfl rfl ?_
    refine a_imulN (a := 6) (b := t) dM_largest_48 ?_
    refine a_iload_n 3 dM_largest_49 rfl rfl ?_
    refine a_iaddN (a := (6 * t)) (b := h) dM_largest_50 ?_
    refine a_ialdN (a := ((6 * t) + h)) dM_largest_51 ly_118 (by omega) (by omega) (by decide) ?_
    rw [show I 118 ((6 * t) + h) = I 118 ((6 * t) + h) from rfl]
    refine a_icmp_ne (tgt := 59) dM_largest_52 (by decide) (fun c52 => ?_) (fun c52 => ?_)
    · refine a_iconstN (a := 0) dM_largest_59 (by decide) ?_
      refine a_iaddN (a := s) (b := 0) dM_largest_60 ?_
      refine a_istore (lv' := [(4, .int (nI (s + 0))), (5, .int (nI k)), (0, .ref 95), (1, .int (nI h)), (2, .int mst), (3, .int (nI t))]) dM_largest_61 (by decide) rfl ?_
      refine a_iincN (lv' := [(5, .int (nI (k + 1))), (4, .int (nI (s + 0))), (0, .ref 95), (1, .int (nI h)), (2, .int mst), (3, .int (nI t))]) (j := 1) dM_largest_63 rfl (by decide) rfl ?_
      refine a_goto (tgt := 18) dM_largest_66 (by decide) ?_
      have e' : lgA I h t s0 (k + 1) = (s + 0) := by
        show lgAS I h t k (lgA I h t s0 k) = _
        rw [es]
        unfold lgAS
        rw [if_neg c52]
      exact ih (k + 1) (by omega) (s + 0) e'
    · refine a_iconstN (a := 1) dM_largest_55 (by decide) ?_
      refine a_goto (tgt := 60) dM_largest_56 (by decide) ?_
      refine a_iaddN (a := s) (b := 1) dM_largest_60 ?_
      refine a_istore (lv' := [(4, .int (nI (s + 1))), (5, .int (nI k)), (0, .ref 95), (1, .int (nI h)), (2, .int mst), (3, .int (nI t))]) dM_largest_61 (by decide) rfl ?_
      refine a_iincN (lv' := [(5, .int (nI (k + 1))), (4, .int (nI (s + 1))), (0, .ref 95), (1, .int (nI h)), (2, .int mst), (3, .int (nI t))]) (j := 1) dM_largest_63 rfl (by decide) rfl ?_
      refine a_goto (tgt := 18) dM_largest_66 (by decide) ?_
      have e' : lgA I h t s0 (k + 1) = (s + 1) := by
        show lgAS I h t k (lgA I h t s0 k) = _
        rw [es]
        unfold lgAS
        rw [if_pos c52]
      exact ih (k + 1) (by omega) (s + 1) e'
def lgBS (I : mI) (fo h : Nat) (k : Nat) (s : Int32) : Int32 := (f_gr s (nI (lgA I h k 0 fo)))
def lgB (I : mI) (fo h : Nat) (s0 : Int32) : Nat → Int32
  | 0 => s0
  | k + 1 => lgBS I fo h k (lgB I fo h s0 k)
theorem l_lgB {S : Nat × (Nat → Int32)} {d n : Nat} {I : mI} {J : mJ} {R : mR} (hn : 122 ≤ n) (hR : m_fin R) {fo : Nat} (hfo : I 95 49 = nI fo) (hf61 : fo ≤ 61) {h : Nat} (hh6 : h < 6)  {s0 : Int32} {Q : Option Value → mI → mJ → mR → Prop}  (hx : AW S (d + 1) YM_largest n n Q 82 [(3, .int (nI fo)), (2, .int (lgB I fo h s0 fo)), (0, .ref 95), (1, .int (nI h))] [] I J R n) : ∀ m k, k + m = fo → ∀ s : Int32, lgB I fo h s0 k = s → AW S (d + 1) YM_largest n n Q 4 [(3, .int (nI k)), (2, .int s), (0, .ref 95), (1, .int (nI h))] [] I J R n := by
  intro m
  induction m with
  | zero =>
    intro k hk9 s es
    rw [show k = fo by omega] at es ⊢
    subst es
    refine a_iload_n 0 dM_largest_4 rfl rfl ?_
    refine a_aload_n 2 dM_largest_5 rfl rfl ?_
    refine a_geti dM_largest_6 fl12_447 rfl ly_95 (by omega) ?_
    rw [show I 95 49 = (nI fo) from hfo]
    refine a_icmp_geN (tgt := 82) dM_largest_9 (by decide) (by omega) (by omega) (fun _ => ?_) (fun c => False.elim (by omega))
    exact hx
  | succ m ih =>
    intro k hk9 s es
    refine a_iload_n 0 dM_largest_4 rfl rfl ?_
    refine a_aload_n 2 dM_largest_5 rfl rfl ?_
    refine a_geti dM_largest_6 fl12_447 rfl ly_95 (by omega) ?_
    rw [show I 95 49 = (nI fo) from hfo]
    refine a_icmp_geN (tgt := 82) dM_largest_9 (by decide) (by omega) (by omega) (fun c => False.elim (by omega)) (fun _ => ?_)
    refine a_iconstN (a := 0) dM_largest_12 (by decide) ?_
    refine a_istore (lv' := [(4, .int (nI 0)), (3, .int (nI k)), (2, .int s), (0, .ref 95), (1, .int (nI h))]) dM_largest_13 (by decide) rfl ?_
    refine a_iconstN (a := 0) dM_largest_15 (by decide) ?_
    refine a_istore (lv' := [(5, .int (nI 0)), (4, .int (nI 0)), (3, .int (nI k)), (2, .int s), (0, .ref 95), (1, .int (nI h))]) dM_largest_16 (by decide) rfl ?_
    refine a_locs (lv' := [(5, .int (nI 0)), (4, .int (nI 0)), (0, .ref 95), (1, .int (nI h)), (2, .int s), (3, .int (nI k))]) [0, 1, 4, 5, 3, 2] rfl ?_
    refine l_lgA (s0 := 0) hn hR hfo hf61 hh6 (t := k) (mst := s) (by omega) ?_ fo 0 (by omega) _ rfl
    refine a_iload_n 4 dM_largest_69 rfl rfl ?_
    refine a_iload 1 dM_largest_70 rfl ?_
    refine a_callS (Q' := m_res (some (.int (f_gr s (nI (lgA I h k 0 fo))))) I J R) (as := [.int s, .int (nI (lgA I h k 0 fo))]) (st := []) dM_largest_72 ml12_167 rfl (Nat.le_of_ble_eq_true rfl) (Nat.le_of_ble_eq_true rfl) rfl (Nat.le_refl _) (Nat.le_refl _) c_M_greater (m_go ?_)
    show AW _ _ _ _ _ _ _ _ [.int (f_gr s (nI (lgA I h k 0 fo)))] _ _ _ _
    refine a_istore_n (lv' := [(2, .int (f_gr s (nI (lgA I h k 0 fo)))), (5, .int (nI fo)), (4, .int (nI (lgA I h k 0 fo))), (0, .ref 95), (1, .int (nI h)), (3, .int (nI k))]) dM_largest_75 rfl (by decide) rfl ?_
    refine a_iincN (lv' := [(3, .int (nI (k + 1))), (2, .int (f_gr s (nI (lgA I h k 0 fo)))), (5, .int (nI fo)), (4, .int (nI (lgA I h k 0 fo))), (0, .ref 95), (1, .int (nI h))]) (j := 5) dM_largest_76 rfl (by decide) rfl ?_
    refine a_goto (tgt := 4) dM_largest_79 (by decide) ?_
    have e' : lgB I fo h s0 (k + 1) = (f_gr s (nI (lgA I h k 0 fo))) := by
      show lgBS I fo h k (lgB I fo h s0 k) = _
      rw [es]
      unfold lgBS
      rfl
    refine a_locs (lv' := [(3, .int (nI (k + 1))), (2, .int (f_gr s (nI (lgA I h k 0 fo)))), (0, .ref 95), (1, .int (nI h))]) [0, 1, 4, 5] rfl ?_
    exact ih (k + 1) (by omega) (f_gr s (nI (lgA I h k 0 fo))) e'
theorem c_M_largest {S : Nat × (Nat → Int32)} {d n : Nat} {I : mI} {J : mJ} {R : mR} (hn : 122 ≤ n) (hR : m_fin R) {fo : Nat} (hfo : I 95 49 = nI fo) (hf61 : fo ≤ 61) {h : Nat} (hh6 : h < 6)  : RUN S (d + 1) YM_largest [.ref 95, .int (nI h)] I J R n (some (.int (lgB I fo h (nI 0) fo))) I J R n := by
  show AW S _ YM_largest n n _ 0 [(0, .ref 95), (1, .int (nI h))] [] I J R n
  refine a_iconstN (a := 0) dM_largest_0 (by decide) ?_
  refine a_istore_n (lv' := [(2, .int (nI 0)), (0, .ref 95), (1, .int (nI h))]) dM_largest_1 rfl (by decide) rfl ?_
  refine a_iconstN (a := 0) dM_largest_2 (by decide) ?_
  refine a_istore_n (lv' := [(3, .int (nI 0)), (2, .int (nI 0)), (0, .ref 95), (1, .int (nI h))]) dM_largest_3 rfl (by decide) rfl ?_
  refine l_lgB (s0 := (nI 0)) hn hR hfo hf61 hh6 ?_ fo 0 (by omega) _ rfl
  refine a_iload_n 1 dM_largest_82 rfl rfl ?_
  exact a_iret dM_largest_83 rfl ⟨rfl, rfl, rfl, rfl⟩
def akAS (md : Nat → Int32) (t : Nat) (k : Nat) (s : (Nat → Int32)) : (Nat → Int32) := (va_up s ((6 * t) + k) (md k))
def akA (md : Nat → Int32) (t : Nat) (s0 : (Nat → Int32)) : Nat → (Nat → Int32)
  | 0 => s0
  | k + 1 => akAS md t k (akA md t s0 k)
theorem l_akA {S : Nat × (Nat → Int32)} {d n : Nat} {I : mI} {J : mJ} {R : mR} (hn : 122 ≤ n) (hR : m_fin R) {t : Nat} (ht : t < 61) {md ls cm : Nat → Int32}  {s0 : (Nat → Int32)} {Q : Option Value → mI → mJ → mR → Prop}  (hx : AW S (d + 6) YM_ask n n Q 51 [(2, .int (nI 6)), (0, .ref 95), (1, .int (nI t))] [] (m_row (m_row (m_row (m_row I 118 (akA md t s0 6)) 107 md) 108 ls) 109 cm) J R n) : ∀ m k, k + m = 6 → ∀ s : (Nat → Int32), akA md t s0 k = s → AW S (d + 6) YM_ask n n Q 22 [(2, .int (nI k)), (0, .ref 95), (1, .int (nI t))] [] (m_row (m_row (m_row (m_row I 118 s) 107 md) 108 ls) 109 cm) J R n := by
  intro m
  induction m with
  | zero =>
    intro k hk9 s es
    rw [show k = 6 by omega] at es ⊢
    subst es
    refine a_iload_n 0 dM_ask_22 rfl rfl ?_
    refine a_bipushN (a := 6) dM_ask_23 (by decide) ?_
    refine a_icmp_geN (tgt := 51) dM_ask_25 (by decide) (by omega) (by omega) (fun _ => ?_) (fun c => False.elim (by omega))
    exact hx
  | succ m ih =>
    intro k hk9 s es
    refine a_iload_n 0 dM_ask_22 rfl rfl ?_
    refine a_bipushN (a := 6) dM_ask_23 (by decide) ?_
    refine a_icmp_geN (tgt := 51) dM_ask_25 (by decide) (by omega) (by omega) (fun c => False.elim (by omega)) (fun _ => ?_)
    refine a_aload_n 1 dM_ask_28 rfl rfl ?_
    refine a_geta (r := 118) dM_ask_29 fl12_78 rfl ly_95 (by omega) (rf_95_50 hR) ?_
    refine a_bipushN (a := 6) dM_ask_32 (by decide) ?_
    refine a_iload_n 2 dM_ask_34 rfl rfl ?_
    refine a_imulN (a := 6) (b := t) dM_ask_35 ?_
    refine a_iload_n 0 dM_ask_36 rfl rfl ?_
    refine a_iaddN (a := (6 * t)) (b := k) dM_ask_37 ?_
    refine a_aload_n 1 dM_ask_38 rfl rfl ?_
    refine a_geta (r := 107) dM_ask_39 fl12_44 rfl ly_95 (by omega) (rf_95_27 hR) ?_
    refine a_iload_n 0 dM_ask_42 rfl rfl ?_
    refine a_ialdN (a := k) dM_ask_43 ly_107 (by omega) (by omega) (by decide) ?_
    rw [show (m_row (m_row (m_row (m_row I 118 s) 107 md) 108 ls) 109 cm) 107 k = md k from rfl]
    refine a_iastN (a := ((6 * t) + k)) dM_ask_44 ly_118 (by omega) (by omega) (by decide) ?_
    rw [show m_up (m_row (m_row (m_row (m_row I 118 s) 107 md) 108 ls) 109 cm) 118 ((6 * t) + k) (md k) = (m_row (m_row (m_row (m_row I 118 (va_up s ((6 * t) + k) (md k))) 107 md) 108 ls) 109 cm) from (by rw [m_up_comm (by decide), m_up_comm (by decide), m_up_comm (by decide), m_up_r])]
    refine a_iincN (lv' := [(2, .int (nI (k + 1))), (0, .ref 95), (1, .int (nI t))]) (j := 0) dM_ask_45 rfl (by decide) rfl ?_
    refine a_goto (tgt := 22) dM_ask_48 (by decide) ?_
    have e' : akA md t s0 (k + 1) = (va_up s ((6 * t) + k) (md k)) := by
      show akAS md t k (akA md t s0 k) = _
      rw [es]
      unfold akAS
      rfl
    exact ih (k + 1) (by omega) (va_up s ((6 * t) + k) (md k)) e'
def akBS (I : mI) (ko nl : Nat) (k : Nat) (s : (Nat → Int32) × (Nat → Int32) × (Nat → Int32) × (Nat → Int32)) : (Nat → Int32) × (Nat → Int32) × (Nat → Int32) × (Nat → Int32) := ((akA (acS I ko nl (hmN (I 117) k) s.2.1 s.2.2.1 s.2.2.2).1 k s.1 6), (acS I ko nl (hmN (I 117) k) s.2.1 s.2.2.1 s.2.2.2).1, (acS I ko nl (hmN (I 117) k) s.2.1 s.2.2.1 s.2.2.2).2.1, (acS I ko nl (hmN (I 117) k) s.2.1 s.2.2.1 s.2.2.2).2.2)
def akB (I : mI) (ko nl : Nat) (s0 : (Nat → Int32) × (Nat → Int32) × (Nat → Int32) × (Nat → Int32)) : Nat → (Nat → Int32) × (Nat → Int32) × (Nat → Int32) × (Nat → Int32)
  | 0 => s0
  | k + 1 => akBS I ko nl k (akB I ko nl s0 k)
theorem l_akB {S : Nat × (Nat → Int32)} {d n : Nat} {I : mI} {J : mJ} {R : mR} {ko nh nl : Nat} (hn : 122 ≤ n) (hR : m_fin R) (ho : I 95 23 = nI ko) (hk : ko < 7) (hh : I 95 24 = nI nh) (hnh : nh ≤ 6) (hl : I 95 25 = nI nl) (hnl : nl ≤ 10) (hW : WFk I ko) (hH : WFh (I 106) nl) {fo : Nat} (hfo : I 95 49 = nI fo) (hf61 : fo ≤ 61) (hft : ∀ k, k < fo → I 117 k = nI (hmN (I 117) k) ∧ (hmN (I 117) k < 60 ∨ hmN (I 117) k = 99))  {s0 : (Nat → Int32) × (Nat → Int32) × (Nat → Int32) × (Nat → Int32)} {Q : Option Value → mI → mJ → mR → Prop}  (hx : AW S (d + 6) YM_ask n n Q 57 [(1, .int (nI fo)), (0, .ref 95)] [] (m_row (m_row (m_row (m_row I 118 ((akB I ko nl s0 fo).1)) 107 ((akB I ko nl s0 fo).2.1)) 108 ((akB I ko nl s0 fo).2.2.1)) 109 ((akB I ko nl s0 fo).2.2.2)) J R n) : ∀ m k, k + m = fo → ∀ s : (Nat → Int32) × (Nat → Int32) × (Nat → Int32) × (Nat → Int32), akB I ko nl s0 k = s → AW S (d + 6) YM_ask n n Q 2 [(1, .int (nI k)), (0, .ref 95)] [] (m_row (m_row (m_row (m_row I 118 s.1) 107 s.2.1) 108 s.2.2.1) 109 s.2.2.2) J R n := by
  intro m
  induction m with
  | zero =>
    intro k hk9 s es
    rw [show k = fo by omega] at es ⊢
    subst es
    refine a_iload_n 0 dM_ask_2 rfl rfl ?_
    refine a_aload_n 1 dM_ask_3 rfl rfl ?_
    refine a_geti dM_ask_4 fl12_447 rfl ly_95 (by omega) ?_
    rw [show (m_row (m_row (m_row (m_row I 118 ((akB I ko nl s0 fo).1)) 107 ((akB I ko nl s0 fo).2.1)) 108 ((akB I ko nl s0 fo).2.2.1)) 109 ((akB I ko nl s0 fo).2.2.2)) 95 49 = (nI fo) from hfo]
    refine a_icmp_geN (tgt := 57) dM_ask_7 (by decide) (by omega) (by omega) (fun _ => ?_) (fun c => False.elim (by omega))
    exact hx
  | succ m ih =>
    intro k hk9 s es
    refine a_iload_n 0 dM_ask_2 rfl rfl ?_
    refine a_aload_n 1 dM_ask_3 rfl rfl ?_
    refine a_geti dM_ask_4 fl12_447 rfl ly_95 (by omega) ?_
    rw [show (m_row (m_row (m_row (m_row I 118 s.1) 107 s.2.1) 108 s.2.2.1) 109 s.2.2.2) 95 49 = (nI fo) from hfo]
    refine a_icmp_geN (tgt := 57) dM_ask_7 (by decide) (by omega) (by omega) (fun c => False.elim (by omega)) (fun _ => ?_)
    refine a_aload_n 1 dM_ask_10 rfl rfl ?_
    refine a_aload_n 1 dM_ask_11 rfl rfl ?_
    refine a_geta (r := 117) dM_ask_12 fl12_75 rfl ly_95 (by omega) (rf_95_48 hR) ?_
    refine a_iload_n 0 dM_ask_15 rfl rfl ?_
    refine a_ialdN (a := k) dM_ask_16 ly_117 (by omega) (by omega) (by decide) ?_
    rw [show (m_row (m_row (m_row (m_row I 118 s.1) 107 s.2.1) 108 s.2.2.1) 109 s.2.2.2) 117 k = I 117 k from rfl]
    rw [show (I 117 k) = (nI (hmN (I 117) k)) from (hft k (by omega)).1]
    refine a_callV (Q' := m_res none (m_row (m_row (m_row (m_row I 118 s.1) 107 ((acS I ko nl (hmN (I 117) k) s.2.1 s.2.2.1 s.2.2.2).1)) 108 ((acS I ko nl (hmN (I 117) k) s.2.1 s.2.2.1 s.2.2.2).2.1)) 109 ((acS I ko nl (hmN (I 117) k) s.2.1 s.2.2.1 s.2.2.2).2.2)) J R) (as := [.int (nI (hmN (I 117) k))]) (st := []) dM_ask_17 ml12_444 rfl (Nat.le_of_ble_eq_true rfl) ly_95 rfl rfl (by decide) (by omega) (Nat.le_of_ble_eq_true rfl) rfl (Nat.le_refl _) (Nat.le_refl _) (c_M_allCome (I := m_row I 118 s.1) hn hR ho hk hh hnh hl hnl hW hH (hft k (by omega)).2) (m_go ?_)
    show AW _ _ _ _ _ _ _ _ [] _ _ _ _
    refine a_iconstN (a := 0) dM_ask_20 (by decide) ?_
    refine a_istore_n (lv' := [(2, .int (nI 0)), (1, .int (nI k)), (0, .ref 95)]) dM_ask_21 rfl (by decide) rfl ?_
    refine a_locs (lv' := [(2, .int (nI 0)), (0, .ref 95), (1, .int (nI k))]) [0, 2, 1] rfl ?_
    refine l_akA (s0 := s.1) hn hR (t := k) (by omega) ?_ 6 0 (by omega) _ rfl
    refine a_iincN (lv' := [(1, .int (nI (k + 1))), (2, .int (nI 6)), (0, .ref 95)]) (j := 2) dM_ask_51 rfl (by decide) rfl ?_
    refine a_goto (tgt := 2) dM_ask_54 (by decide) ?_
    have e' : akB I ko nl s0 (k + 1) = ((akA (acS I ko nl (hmN (I 117) k) s.2.1 s.2.2.1 s.2.2.2).1 k s.1 6), (acS I ko nl (hmN (I 117) k) s.2.1 s.2.2.1 s.2.2.2).1, (acS I ko nl (hmN (I 117) k) s.2.1 s.2.2.1 s.2.2.2).2.1, (acS I ko nl (hmN (I 117) k) s.2.1 s.2.2.1 s.2.2.2).2.2) := by
      show akBS I ko nl k (akB I ko nl s0 k) = _
      rw [es]
      unfold akBS
      rfl
    refine a_locs (lv' := [(1, .int (nI (k + 1))), (0, .ref 95)]) [0, 2] rfl ?_
    exact ih (k + 1) (by omega) ((akA (acS I ko nl (hmN (I 117) k) s.2.1 s.2.2.1 s.2.2.2).1 k s.1 6), (acS I ko nl (hmN (I 117) k) s.2.1 s.2.2.1 s.2.2.2).1, (acS I ko nl (hmN (I 117) k) s.2.1 s.2.2.1 s.2.2.2).2.1, (acS I ko nl (hmN (I 117) k) s.2.1 s.2.2.1 s.2.2.2).2.2) e'
def akCS (I : mI) (fo : Nat) (k : Nat) (s : Int32 × Int32) : Int32 × Int32 := (if s.2 ≤ (lgB I fo k (nI 0) fo) then (s.1, (f_le s.2 (lgB I fo k (nI 0) fo))) else ((nI k), (f_le s.2 (lgB I fo k (nI 0) fo))))
def akC (I : mI) (fo : Nat) (s0 : Int32 × Int32) : Nat → Int32 × Int32
  | 0 => s0
  | k + 1 => akCS I fo k (akC I fo s0 k)
theorem l_akC {S : Nat × (Nat → Int32)} {d n : Nat} {I : mI} {J : mJ} {R : mR} {ko nh nl : Nat} (hn : 122 ≤ n) (hR : m_fin R) (ho : I 95 23 = nI ko) (hk : ko < 7) (hh : I 95 24 = nI nh) (hnh : nh ≤ 6) (hl : I 95 25 = nI nl) (hnl : nl ≤ 10) (hW : WFk I ko) {fo : Nat} (hfo : I 95 49 = nI fo) (hf61 : fo ≤ 61) (hf0 : 0 < fo)  {s0 : Int32 × Int32} {Q : Option Value → mI → mJ → mR → Prop}  (hx : AW S (d + 6) YM_ask n n Q 112 [(3, .int (nI nh)), (1, .int (akC I fo s0 nh).1), (2, .int (akC I fo s0 nh).2), (0, .ref 95)] [] I J R n) : ∀ m k, k + m = nh → ∀ s : Int32 × Int32, akC I fo s0 k = s → AW S (d + 6) YM_ask n n Q 65 [(3, .int (nI k)), (1, .int s.1), (2, .int s.2), (0, .ref 95)] [] I J R n := by
  intro m
  induction m with
  | zero =>
    intro k hk9 s es
    rw [show k = nh by omega] at es ⊢
    subst es
    refine a_iload_n 0 dM_ask_65 rfl rfl ?_
    refine a_aload_n 3 dM_ask_66 rfl rfl ?_
    refine a_geti dM_ask_67 fl12_259 rfl ly_95 (by omega) ?_
    rw [show I 95 24 = (nI nh) from hh]
    refine a_icmp_geN (tgt := 112) dM_ask_70 (by decide) (by omega) (by omega) (fun _ => ?_) (fun c => False.elim (by omega))
    exact hx
  | succ m ih =>
    intro k hk9 s es
    refine a_iload_n 0 dM_ask_65 rfl rfl ?_
    refine a_aload_n 3 dM_ask_66 rfl rfl ?_
    refine a_geti dM_ask_67 fl12_259 rfl ly_95 (by omega) ?_
    rw [show I 95 24 = (nI nh) from hh]
    refine a_icmp_geN (tgt := 112) dM_ask_70 (by decide) (by omega) (by omega) (fun c => False.elim (by omega)) (fun _ => ?_)
    refine a_aload_n 3 dM_ask_73 rfl rfl ?_
    refine a_geti dM_ask_74 fl12_447 rfl ly_95 (by omega) ?_
    rw [show I 95 49 = (nI fo) from hfo]
    refine a_if_le (tgt := 112) dM_ask_77 (by decide) (fun c => False.elim (absurd (nI_le0 (by omega) c) (by omega))) (fun _ => ?_)
    refine a_aload_n 3 dM_ask_80 rfl rfl ?_
    refine a_iload_n 0 dM_ask_81 rfl rfl ?_
    refine a_callV (Q' := m_res (some (.int (lgB I fo k (nI 0) fo))) I J R) (as := [.int (nI k)]) (st := []) dM_ask_82 ml12_453 rfl (Nat.le_of_ble_eq_true rfl) ly_95 rfl rfl (by decide) (by omega) (Nat.le_of_ble_eq_true rfl) rfl (Nat.le_refl _) (Nat.le_refl _) (c_M_largest hn hR hfo hf61 (by omega)) (m_go ?_)
    show AW _ _ _ _ _ _ _ _ [.int (lgB I fo k (nI 0) fo)] _ _ _ _
    refine a_istore (lv' := [(4, .int (lgB I fo k (nI 0) fo)), (3, .int (nI k)), (1, .int s.1), (2, .int s.2), (0, .ref 95)]) dM_ask_85 (by decide) rfl ?_
    refine a_iload 0 dM_ask_87 rfl ?_
    refine a_iload_n 3 dM_ask_89 rfl rfl ?_
    refine a_icmp_ge (tgt := 97) dM_ask_90 (by decide) (fun c90 => ?_) (fun c90 => ?_)
    · refine a_iload_n 2 dM_ask_97 rfl rfl ?_
      refine a_istore_n (lv' := [(1, .int s.1), (4, .int (lgB I fo k (nI 0) fo)), (3, .int (nI k)), (2, .int s.2), (0, .ref 95)]) dM_ask_98 rfl (by decide) rfl ?_
      refine a_iload_n 3 dM_ask_99 rfl rfl ?_
      refine a_iload 1 dM_ask_100 rfl ?_
      refine a_callS (Q' := m_res (some (.int (f_le s.2 (lgB I fo k (nI 0) fo)))) I J R) (as := [.int s.2, .int (lgB I fo k (nI 0) fo)]) (st := []) dM_ask_102 ml12_355 rfl (Nat.le_of_ble_eq_true rfl) (Nat.le_of_ble_eq_true rfl) rfl (Nat.le_refl _) (Nat.le_refl _) c_M_lesser (m_go ?_)
      show AW _ _ _ _ _ _ _ _ [.int (f_le s.2 (lgB I fo k (nI 0) fo))] _ _ _ _
      refine a_istore_n (lv' := [(2, .int (f_le s.2 (lgB I fo k (nI 0) fo))), (1, .int s.1), (4, .int (lgB I fo k (nI 0) fo)), (3, .int (nI k)), (0, .ref 95)]) dM_ask_105 rfl (by decide) rfl ?_
      refine a_iincN (lv' := [(3, .int (nI (k + 1))), (2, .int (f_le s.2 (lgB I fo k (nI 0) fo))), (1, .int s.1), (4, .int (lgB I fo k (nI 0) fo)), (0, .ref 95)]) (j := 3) dM_ask_106 rfl (by decide) rfl ?_
      refine a_goto (tgt := 65) dM_ask_109 (by decide) ?_
      have e' : akC I fo s0 (k + 1) = (s.1, (f_le s.2 (lgB I fo k (nI 0) fo))) := by
        show akCS I fo k (akC I fo s0 k) = _
        rw [es]
        unfold akCS
        rw [if_pos c90]
      refine a_locs (lv' := [(3, .int (nI (k + 1))), (1, .int s.1), (2, .int (f_le s.2 (lgB I fo k (nI 0) fo))), (0, .ref 95)]) [0, 2, 1, 4] rfl ?_
      exact ih (k + 1) (by omega) (s.1, (f_le s.2 (lgB I fo k (nI 0) fo))) e'
    · refine a_iload_n 1 dM_ask_93 rfl rfl ?_
      refine a_goto (tgt := 98) dM_ask_94 (by decide) ?_
      refine a_istore_n (lv' := [(1, .int (nI k)), (4, .int (lgB I fo k (nI 0) fo)), (3, .int (nI k)), (2, .int s.2), (0, .ref 95)]) dM_ask_98 rfl (by decide) rfl ?_
      refine a_iload_n 3 dM_ask_99 rfl rfl ?_
      refine a_iload 1 dM_ask_100 rfl ?_
      refine a_callS (Q' := m_res (some (.int (f_le s.2 (lgB I fo k (nI 0) fo)))) I J R) (as := [.int s.2, .int (lgB I fo k (nI 0) fo)]) (st := []) dM_ask_102 ml12_355 rfl (Nat.le_of_ble_eq_true rfl) (Nat.le_of_ble_eq_true rfl) rfl (Nat.le_refl _) (Nat.le_refl _) c_M_lesser (m_go ?_)
      show AW _ _ _ _ _ _ _ _ [.int (f_le s.2 (lgB I fo k (nI 0) fo))] _ _ _ _
      refine a_istore_n (lv' := [(2, .int (f_le s.2 (lgB I fo k (nI 0) fo))), (1, .int (nI k)), (4, .int (lgB I fo k (nI 0) fo)), (3, .int (nI k)), (0, .ref 95)]) dM_ask_105 rfl (by decide) rfl ?_
      refine a_iincN (lv' := [(3, .int (nI (k + 1))), (2, .int (f_le s.2 (lgB I fo k (nI 0) fo))), (1, .int (nI k)), (4, .int (lgB I fo k (nI 0) fo)), (0, .ref 95)]) (j := 3) dM_ask_106 rfl (by decide) rfl ?_
      refine a_goto (tgt := 65) dM_ask_109 (by decide) ?_
      have e' : akC I fo s0 (k + 1) = ((nI k), (f_le s.2 (lgB I fo k (nI 0) fo))) := by
        show akCS I fo k (akC I fo s0 k) = _
        rw [es]
        unfold akCS
        rw [if_neg c90]
      refine a_locs (lv' := [(3, .int (nI (k + 1))), (1, .int (nI k)), (2, .int (f_le s.2 (lgB I fo k (nI 0) fo))), (0, .ref 95)]) [0, 2, 1, 4] rfl ?_
      exact ih (k + 1) (by omega) ((nI k), (f_le s.2 (lgB I fo k (nI 0) fo))) e'
abbrev ak4 : Type := (Nat → Int32) × (Nat → Int32) × (Nat → Int32) × (Nat → Int32)
abbrev akT (I : mI) (ko nl fo : Nat) : ak4 := akB I ko nl (I 118, I 107, I 108, I 109) fo
abbrev akM (I : mI) (s : ak4) : mI := m_row (m_row (m_row (m_row I 118 s.1) 107 s.2.1) 108 s.2.2.1) 109 s.2.2.2
def akR (I : mI) (ko nh nl fo : Nat) : Int32 := if fo = 0 then -1 else (akC (akM I (akT I ko nl fo)) fo (-1, 1000000) nh).1
theorem ak_self {I : mI} : m_row (m_row (m_row (m_row I 118 (I 118)) 107 (I 107)) 108 (I 108)) 109 (I 109) = I := by
  rw [m_row_self, m_row_self, m_row_self, m_row_self]
theorem c_M_ask {S : Nat × (Nat → Int32)} {d n : Nat} {I : mI} {J : mJ} {R : mR} {ko nh nl : Nat} (hn : 122 ≤ n) (hR : m_fin R) (ho : I 95 23 = nI ko) (hk : ko < 7) (hh : I 95 24 = nI nh) (hnh : nh ≤ 6) (hl : I 95 25 = nI nl) (hnl : nl ≤ 10) (hW : WFk I ko) (hH : WFh (I 106) nl) {fo : Nat} (hfo : I 95 49 = nI fo) (hf61 : fo ≤ 61) (hft : ∀ k, k < fo → I 117 k = nI (hmN (I 117) k) ∧ (hmN (I 117) k < 60 ∨ hmN (I 117) k = 99))  : RUN S (d + 6) YM_ask [.ref 95] I J R n (some (.int (akR I ko nh nl fo))) (akM I (akT I ko nl fo)) J R n := by
  show AW S _ YM_ask n n _ 0 [(0, .ref 95)] [] I J R n
  refine a_iconstN (a := 0) dM_ask_0 (by decide) ?_
  refine a_istore_n (lv' := [(1, .int (nI 0)), (0, .ref 95)]) dM_ask_1 rfl (by decide) rfl ?_
  refine a_mem ak_self.symm ?_
  refine l_akB (s0 := (I 118, I 107, I 108, I 109)) hn hR ho hk hh hnh hl hnl hW hH hfo hf61 hft ?_ fo 0 (by omega) _ rfl
  refine a_iconst (v := -1) dM_ask_57 (by decide) ?_
  refine a_istore_n (lv' := [(1, .int (-1)), (0, .ref 95)]) dM_ask_58 rfl (by decide) rfl ?_
  refine a_ldcw (v := 1000000) dM_ask_59 cn12_349 ?_
  refine a_istore_n (lv' := [(2, .int 1000000), (1, .int (-1)), (0, .ref 95)]) dM_ask_62 rfl (by decide) rfl ?_
  refine a_iconstN (a := 0) dM_ask_63 (by decide) ?_
  refine a_istore_n (lv' := [(3, .int (nI 0)), (2, .int 1000000), (1, .int (-1)), (0, .ref 95)]) dM_ask_64 rfl (by decide) rfl ?_
  by_cases hf0 : fo = 0
  · refine a_iload_n 0 dM_ask_65 rfl rfl ?_
    refine a_aload_n 3 dM_ask_66 rfl rfl ?_
    refine a_geti dM_ask_67 fl12_259 rfl ly_95 (by omega) ?_
    rw [show (m_row (m_row (m_row (m_row I 118 ((akB I ko nl (I 118, I 107, I 108, I 109) fo).1)) 107 ((akB I ko nl (I 118, I 107, I 108, I 109) fo).2.1)) 108 ((akB I ko nl (I 118, I 107, I 108, I 109) fo).2.2.1)) 109 ((akB I ko nl (I 118, I 107, I 108, I 109) fo).2.2.2)) 95 24 = (nI nh) from hh]
    refine a_icmp_geN (tgt := 112) dM_ask_70 (by decide) (by omega) (by omega) (fun c70 => ?_) (fun c70 => ?_)
    · refine a_iload_n 2 dM_ask_112 rfl rfl ?_
      exact a_iret dM_ask_113 rfl ⟨by unfold akR; rw [if_pos hf0], rfl, rfl, rfl⟩
    · refine a_aload_n 3 dM_ask_73 rfl rfl ?_
      refine a_geti dM_ask_74 fl12_447 rfl ly_95 (by omega) ?_
      rw [show (m_row (m_row (m_row (m_row I 118 ((akB I ko nl (I 118, I 107, I 108, I 109) fo).1)) 107 ((akB I ko nl (I 118, I 107, I 108, I 109) fo).2.1)) 108 ((akB I ko nl (I 118, I 107, I 108, I 109) fo).2.2.1)) 109 ((akB I ko nl (I 118, I 107, I 108, I 109) fo).2.2.2)) 95 49 = (nI fo) from hfo]
      refine a_if_le (tgt := 112) dM_ask_77 (by decide) (fun _ => ?_) (fun c => False.elim (c (by rw [hf0]; decide)))
      refine a_iload_n 2 dM_ask_112 rfl rfl ?_
      exact a_iret dM_ask_113 rfl ⟨by unfold akR; rw [if_pos hf0], rfl, rfl, rfl⟩
  · refine a_locs (lv' := [(3, .int (nI 0)), (1, .int (-1)), (2, .int 1000000), (0, .ref 95)]) [0, 2, 1, 3] rfl ?_
    refine l_akC (s0 := (-1, 1000000)) (I := (akM I (akT I ko nl fo))) hn hR ho hk hh hnh hl hnl hW hfo hf61 (by omega) ?_ nh 0 (by omega) _ rfl
    refine a_iload_n 1 dM_ask_112 rfl rfl ?_
    exact a_iret dM_ask_113 rfl ⟨by unfold akR; rw [if_neg hf0], rfl, rfl, rfl⟩
def ftF (I : mI) (ko nh nl fo : Nat) (x : Int32) : Int32 := if x = 0 then nI fo else if x = 1 then suR I fo 1 else if x = 2 then suR I fo 0 else if x = 3 then akR I ko nh nl fo else -2
theorem KR.ak {I : mI} {s : ak4} : KR I (akM I s) := (((KR.refl.row (by decide)).row (by decide)).row (by decide)).row (by decide)
theorem b_M_fits0 {S : Nat × (Nat → Int32)} {d n : Nat} {I : mI} {J : mJ} {R : mR} {ko nh nl : Nat} (hn : 122 ≤ n) (hR : m_fin R) (ho : I 95 23 = nI ko) (hk : ko < 7) (hh : I 95 24 = nI nh) (hnh : nh ≤ 6) (hl : I 95 25 = nI nl) (hnl : nl ≤ 10) (hW : WFk I ko) (hH : WFh (I 106) nl) {fo : Nat} (hfo : I 95 49 = nI fo) (hf61 : fo ≤ 61) (hft : ∀ k, k < fo → I 117 k = nI (hmN (I 117) k) ∧ (hmN (I 117) k < 60 ∨ hmN (I 117) k = 99)) {x : Int32} (hx : x < nI 10)  {Q : Option Value → mI → mJ → mR → Prop} (hQ : ∀ I', KR I I' → Q (some (.int (ftF I ko nh nl fo x))) I' J R) : AW S (d + 7) YM_fits n n Q 17 [(0, .ref 95), (3, .int x)] [] I J R n := by
  refine a_iload_n 1 dM_fits_17 rfl rfl ?_
  refine a_bipushN (a := 10) dM_fits_18 (by decide) ?_
  refine a_icmp_lt (tgt := 49) dM_fits_20 (by decide) (fun _ => ?_) (fun c => False.elim (c hx))
  refine a_iload_n 1 dM_fits_49 rfl rfl ?_
  by_cases hs0 : x = 0
  · refine a_tab (off := 30) (tgt := 80) dM_fits_50 hs0 (by decide) (by decide) (by decide) (by decide) ?_
    refine a_aload_n 0 dM_fits_80 rfl rfl ?_
    refine a_geti dM_fits_81 fl12_447 rfl ly_95 (by omega) ?_
    rw [show I 95 49 = (nI fo) from hfo]
    exact a_iret dM_fits_84 rfl (by have h := hQ _ KR.refl; unfold ftF at h; rw [if_pos hs0] at h; exact h)
  by_cases hs1 : x = 1
  · refine a_tab (off := 35) (tgt := 85) dM_fits_50 hs1 (by decide) (by decide) (by decide) (by decide) ?_
    refine a_aload_n 0 dM_fits_85 rfl rfl ?_
    refine a_iload_n 1 dM_fits_86 rfl rfl ?_
    refine a_iconstN (a := 1) dM_fits_87 (by decide) ?_
    refine a_icmp_ne (tgt := 95) dM_fits_88 (by decide) (fun c => False.elim (c hs1)) (fun _ => ?_)
    refine a_iconstN (a := 1) dM_fits_91 (by decide) ?_
    refine a_goto (tgt := 96) dM_fits_92 (by decide) ?_
    refine a_callV (Q' := m_res (some (.int (suR I fo 1))) I J R) (as := [.int (nI 1)]) (st := []) dM_fits_96 ml12_459 rfl (Nat.le_of_ble_eq_true rfl) ly_95 rfl rfl (by decide) (by omega) (Nat.le_of_ble_eq_true rfl) rfl (Nat.le_refl _) (Nat.le_refl _) (c_M_sureOf hn hR hfo hf61 hft) (m_go ?_)
    show AW _ _ _ _ _ _ _ _ [.int (suR I fo 1)] _ _ _ _
    exact a_iret dM_fits_99 rfl (by have h := hQ _ KR.refl; unfold ftF at h; rw [if_neg hs0, if_pos hs1] at h; exact h)
  by_cases hs2 : x = 2
  · refine a_tab (off := 35) (tgt := 85) dM_fits_50 hs2 (by decide) (by decide) (by decide) (by decide) ?_
    refine a_aload_n 0 dM_fits_85 rfl rfl ?_
    refine a_iload_n 1 dM_fits_86 rfl rfl ?_
    refine a_iconstN (a := 1) dM_fits_87 (by decide) ?_
    refine a_icmp_ne (tgt := 95) dM_fits_88 (by decide) (fun _ => ?_) (fun c => False.elim (absurd (hs2.symm.trans c) (by decide)))
    refine a_iconstN (a := 0) dM_fits_95 (by decide) ?_
    refine a_callV (Q' := m_res (some (.int (suR I fo 0))) I J R) (as := [.int (nI 0)]) (st := []) dM_fits_96 ml12_459 rfl (Nat.le_of_ble_eq_true rfl) ly_95 rfl rfl (by decide) (by omega) (Nat.le_of_ble_eq_true rfl) rfl (Nat.le_refl _) (Nat.le_refl _) (c_M_sureOf hn hR hfo hf61 hft) (m_go ?_)
    show AW _ _ _ _ _ _ _ _ [.int (suR I fo 0)] _ _ _ _
    exact a_iret dM_fits_99 rfl (by have h := hQ _ KR.refl; unfold ftF at h; rw [if_neg hs0, if_neg hs1, if_pos hs2] at h; exact h)
  by_cases hs3 : x = 3
  · refine a_tab (off := 50) (tgt := 100) dM_fits_50 hs3 (by decide) (by decide) (by decide) (by decide) ?_
    refine a_aload_n 0 dM_fits_100 rfl rfl ?_
    refine a_callV (Q' := m_res (some (.int (akR I ko nh nl fo))) (akM I (akT I ko nl fo)) J R) (as := []) (st := []) dM_fits_101 ml12_463 rfl (Nat.le_of_ble_eq_true rfl) ly_95 rfl rfl (by decide) (by omega) (Nat.le_of_ble_eq_true rfl) rfl (Nat.le_refl _) (Nat.le_refl _) (c_M_ask hn hR ho hk hh hnh hl hnl hW hH hfo hf61 hft) (m_go ?_)
    show AW _ _ _ _ _ _ _ _ [.int (akR I ko nh nl fo)] _ _ _ _
    exact a_iret dM_fits_104 rfl (by have h := hQ _ (KR.ak (s := akT I ko nl fo)); unfold ftF at h; rw [if_neg hs0, if_neg hs1, if_neg hs2, if_pos hs3] at h; exact h)
  refine a_tableOut (tgt := 105) dM_fits_50 (m_swo0_3 hs0 hs1 hs2 hs3) (by decide) ?_
  refine a_bipush (v := -2) dM_fits_105 (by decide) ?_
  exact a_iret dM_fits_107 rfl (by have h := hQ _ KR.refl; unfold ftF at h; rw [if_neg hs0, if_neg hs1, if_neg hs2, if_neg hs3] at h; exact h)
theorem b_M_fitsN {S : Nat × (Nat → Int32)} {d n : Nat} {I : mI} {J : mJ} {R : mR} {ko nh nl : Nat} (hn : 122 ≤ n) (hR : m_fin R) (ho : I 95 23 = nI ko) (hk : ko < 7) (hh : I 95 24 = nI nh) (hnh : nh ≤ 6) (hl : I 95 25 = nI nl) (hnl : nl ≤ 10) (hW : WFk I ko) (hH : WFh (I 106) nl) {fo : Nat} (hfo : I 95 49 = nI fo) (hf61 : fo ≤ 61) (hft : ∀ k, k < fo → I 117 k = nI (hmN (I 117) k) ∧ (hmN (I 117) k < 60 ∨ hmN (I 117) k = 99)) {w : Nat} (hw : 10 ≤ w) (hw2 : w < 2 ^ 31)  {Q : Option Value → mI → mJ → mR → Prop} (hQ : Q (some (.int (if w - 10 < fo then I 117 (w - 10) else -2))) I J R) : AW S (d + 7) YM_fits n n Q 17 [(0, .ref 95), (3, .int (nI w))] [] I J R n := by
  refine a_iload_n 1 dM_fits_17 rfl rfl ?_
  refine a_bipushN (a := 10) dM_fits_18 (by decide) ?_
  refine a_icmp_ltN (tgt := 49) dM_fits_20 (by decide) (by omega) (by omega) (fun c => False.elim (by omega)) (fun _ => ?_)
  refine a_iload_n 1 dM_fits_23 rfl rfl ?_
  refine a_bipushN (a := 10) dM_fits_24 (by decide) ?_
  refine a_isubN dM_fits_26 hw ?_
  refine a_aload_n 0 dM_fits_27 rfl rfl ?_
  refine a_geti dM_fits_28 fl12_447 rfl ly_95 (by omega) ?_
  rw [show I 95 49 = (nI fo) from hfo]
  refine a_icmp_geN (tgt := 46) dM_fits_31 (by decide) (by omega) (by omega) (fun c31 => ?_) (fun c31 => ?_)
  · refine a_bipush (v := -2) dM_fits_46 (by decide) ?_
    exact a_iret dM_fits_48 rfl (by rw [if_neg (show ¬ w - 10 < fo by omega)] at hQ; exact hQ)
  · refine a_aload_n 0 dM_fits_34 rfl rfl ?_
    refine a_geta (r := 117) dM_fits_35 fl12_75 rfl ly_95 (by omega) (rf_95_48 hR) ?_
    refine a_iload_n 1 dM_fits_38 rfl rfl ?_
    refine a_bipushN (a := 10) dM_fits_39 (by decide) ?_
    refine a_isubN dM_fits_41 hw ?_
    refine a_ialdN (a := (w - 10)) dM_fits_42 ly_117 (by omega) (by omega) (by decide) ?_
    rw [show I 117 (w - 10) = I 117 (w - 10) from rfl]
    refine a_goto (tgt := 48) dM_fits_43 (by decide) ?_
    exact a_iret dM_fits_48 rfl (by rw [if_pos (show w - 10 < fo by omega)] at hQ; exact hQ)
theorem b_M_then {S : Nat × (Nat → Int32)} {d n : Nat} {I : mI} {J : mJ} {R : mR} {ko nh nl : Nat} (hn : 122 ≤ n) (hR : m_fin R) (ho : I 95 23 = nI ko) (hk : ko < 7) (hh : I 95 24 = nI nh) (hnh : nh ≤ 6) (hl : I 95 25 = nI nl) (hnl : nl ≤ 10) (hW : WFk I ko) (hH : WFh (I 106) nl) {fo : Nat} (hfo : I 95 49 = nI fo) (hf61 : fo ≤ 61) (hft : ∀ k, k < fo → I 117 k = nI (hmN (I 117) k) ∧ (hmN (I 117) k < 60 ∨ hmN (I 117) k = 99)) {t h : Nat} (ht : t < fo) (hh6 : h < 6)  {Q : Option Value → mI → mJ → mR → Prop} (hQ : ∀ I', KR I I' → Q (some (.int ((acS I ko nl (hmN (I 117) t) (I 107) (I 108) (I 109)).1 h))) I' J R) : AW S (d + 7) YM_then n n Q 41 [(0, .ref 95), (3, .int (nI t)), (4, .int (nI h))] [] I J R n := by
  have G3_self : m_row (m_row (m_row I 107 (I 107)) 108 (I 108)) 109 (I 109) = I := by rw [m_row_self, m_row_self, m_row_self]
  refine a_aload_n 0 dM_then_41 rfl rfl ?_
  refine a_aload_n 0 dM_then_42 rfl rfl ?_
  refine a_geta (r := 117) dM_then_43 fl12_75 rfl ly_95 (by omega) (rf_95_48 hR) ?_
  refine a_iload_n 1 dM_then_46 rfl rfl ?_
  refine a_ialdN (a := t) dM_then_47 ly_117 (by omega) (by omega) (by decide) ?_
  rw [show I 117 t = I 117 t from rfl]
  rw [show (I 117 t) = (nI (hmN (I 117) t)) from (hft t ht).1]
  refine a_callV (Q' := m_res none (m_row (m_row (m_row I 107 ((acS I ko nl (hmN (I 117) t) (I 107) (I 108) (I 109)).1)) 108 ((acS I ko nl (hmN (I 117) t) (I 107) (I 108) (I 109)).2.1)) 109 ((acS I ko nl (hmN (I 117) t) (I 107) (I 108) (I 109)).2.2)) J R) (as := [.int (nI (hmN (I 117) t))]) (st := []) dM_then_48 ml12_444 rfl (Nat.le_of_ble_eq_true rfl) ly_95 rfl rfl (by decide) (by omega) (Nat.le_of_ble_eq_true rfl) rfl (Nat.le_refl _) (Nat.le_refl _) (by have h := c_M_allCome (S := S) (d := d + 1) (n := n) (J := J) (R := R) (I := I) (md := I 107) (ls := I 108) (cm := I 109) hn hR ho hk hh hnh hl hnl hW hH (hft t ht).2; rw [G3_self] at h; exact h) (m_go ?_)
  show AW _ _ _ _ _ _ _ _ [] _ _ _ _
  refine a_aload_n 0 dM_then_51 rfl rfl ?_
  refine a_geta (r := 107) dM_then_52 fl12_44 rfl ly_95 (by omega) (rf_95_27 hR) ?_
  refine a_iload 2 dM_then_55 rfl ?_
  refine a_ialdN (a := h) dM_then_57 ly_107 (by omega) (by omega) (by decide) ?_
  rw [show (m_row (m_row (m_row I 107 ((acS I ko nl (hmN (I 117) t) (I 107) (I 108) (I 109)).1)) 108 ((acS I ko nl (hmN (I 117) t) (I 107) (I 108) (I 109)).2.1)) 109 ((acS I ko nl (hmN (I 117) t) (I 107) (I 108) (I 109)).2.2)) 107 h = ((acS I ko nl (hmN (I 117) t) (I 107) (I 108) (I 109)).1) h from rfl]
  exact a_iret dM_then_58 rfl (hQ _ (((KR.refl.row (by decide)).row (by decide)).row (by decide)))
