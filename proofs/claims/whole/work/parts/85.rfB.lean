theorem and_nI {a b : Nat} : nI a &&& nI b = nI (a &&& b) := by
  refine b_ext (fun i hi => ?_)
  rw [b_and, bt_nI hi, bt_nI hi, bt_nI hi, Nat.testBit_and]
theorem or_nI {a b : Nat} : nI a ||| nI b = nI (a ||| b) := by
  refine b_ext (fun i hi => ?_)
  rw [b_or, bt_nI hi, bt_nI hi, bt_nI hi, Nat.testBit_or]
/-- what is left of a set -/
theorem mn_nI {t s : Nat} (h : s &&& t = s) : nI t &&& (nI s ^^^ -1) = nI (t ^^^ s) := by
  refine b_ext (fun i hi => ?_)
  rw [b_and, bt_not _ hi, bt_nI hi, bt_nI hi, bt_nI hi, Nat.testBit_xor]
  have e : s.testBit i = (s.testBit i && t.testBit i) := by rw [← Nat.testBit_and, h]
  revert e
  cases s.testBit i <;> cases t.testBit i <;> decide
theorem sub_le {s t : Nat} (h : s &&& t = s) : s ≤ t := by rw [← h]; exact Nat.and_le_right
theorem sub_div {s t : Nat} (h : s &&& t = s) : (s / 2) &&& (t / 2) = s / 2 := by
  refine Nat.eq_of_testBit_eq (fun i => ?_)
  have e : s.testBit (i + 1) = (s.testBit (i + 1) && t.testBit (i + 1)) := by rw [← Nat.testBit_and, h]
  rw [Nat.testBit_and, Nat.testBit_div_two, Nat.testBit_div_two]
  exact e.symm
theorem sub_mod {s t : Nat} (h : s &&& t = s) : s % 2 ≤ t % 2 := by
  have e : s.testBit 0 = (s.testBit 0 && t.testBit 0) := by rw [← Nat.testBit_and, h]
  rw [Nat.testBit_zero, Nat.testBit_zero] at e
  rcases Nat.mod_two_eq_zero_or_one s with a | a <;> rcases Nat.mod_two_eq_zero_or_one t with b | b <;> simp [a, b] at e ⊢
theorem and_div {s t : Nat} : (s &&& t) / 2 = (s / 2) &&& (t / 2) := by
  refine Nat.eq_of_testBit_eq (fun i => ?_)
  rw [Nat.testBit_div_two, Nat.testBit_and, Nat.testBit_and, Nat.testBit_div_two, Nat.testBit_div_two]
theorem and_mod {s t : Nat} : (s &&& t) % 2 = (s % 2) * (t % 2) := by
  have e : (s &&& t).testBit 0 = (s.testBit 0 && t.testBit 0) := Nat.testBit_and _ _ _
  rw [Nat.testBit_zero, Nat.testBit_zero, Nat.testBit_zero] at e
  rcases Nat.mod_two_eq_zero_or_one s with a | a <;> rcases Nat.mod_two_eq_zero_or_one t with b | b <;> rcases Nat.mod_two_eq_zero_or_one (s &&& t) with c | c <;> simp [a, b, c] at e ⊢
/-- the next smaller set in a set -/
theorem nx_set : ∀ s t u : Nat, s &&& t = s → u &&& t = u → u < s → u ≤ (s - 1) &&& t := by
  intro s
  induction s using Nat.strongRecOn with
  | ind s ih =>
    intro t u h1 h2 h3
    have m1 := sub_mod h1
    have m2 := sub_mod h2
    have d1 := sub_div h1
    have d2 := sub_div h2
    have e1 : ((s - 1) &&& t) / 2 = ((s - 1) / 2) &&& (t / 2) := and_div
    have e2 : ((s - 1) &&& t) % 2 = ((s - 1) % 2) * (t % 2) := and_mod
    rcases Nat.mod_two_eq_zero_or_one s with a | a
    · have q : (s - 1) / 2 = s / 2 - 1 := by omega
      have q2 : (s - 1) % 2 = 1 := by omega
      rw [q] at e1
      rw [q2, Nat.one_mul] at e2
      have := ih (s / 2) (by omega) (t / 2) (u / 2) d1 d2 (by omega)
      omega
    · have q : (s - 1) / 2 = s / 2 := by omega
      have q2 : (s - 1) % 2 = 0 := by omega
      rw [q, d1] at e1
      rw [q2, Nat.zero_mul] at e2
      omega
theorem nx_lt {s t : Nat} (h0 : 0 < s) : (s - 1) &&& t < s := Nat.lt_of_le_of_lt Nat.and_le_left (by omega)
theorem nx_sub {s t : Nat} : ((s &&& t) &&& t) = s &&& t := by rw [Nat.and_assoc, Nat.and_self]
theorem xor_lt {s t : Nat} (h : s &&& t = s) (h0 : 0 < s) : t ^^^ s < t := by
  have h1 : t ^^^ s ≤ t := by
    have e : (t ^^^ s) &&& t = t ^^^ s := by
      refine Nat.eq_of_testBit_eq (fun i => ?_)
      have e : s.testBit i = (s.testBit i && t.testBit i) := by rw [← Nat.testBit_and, h]
      rw [Nat.testBit_and, Nat.testBit_xor]
      revert e
      cases s.testBit i <;> cases t.testBit i <;> decide
    exact sub_le e
  rcases Nat.lt_or_eq_of_le h1 with q | q
  · exact q
  · exfalso
    have : t ^^^ (t ^^^ s) = t ^^^ t := by rw [q]
    rw [← Nat.xor_assoc, Nat.xor_self, Nat.zero_xor] at this
    omega
/-- into so many bags -/
def prt (gd : Nat → Prop) : Nat → Nat → Prop
  | 0, t => t = 0
  | n + 1, t => ∃ s, s ≠ 0 ∧ s &&& t = s ∧ gd s ∧ prt gd n (t ^^^ s)
/-- the fewest bags -/
def FW (gd : Nat → Prop) (t X : Nat) : Prop := X ≤ 1000000 ∧ (X = 1000000 ∨ prt gd X t) ∧ ∀ m, prt gd m t → X ≤ m
def PI (gd : Nat → Prop) (t s X : Nat) : Prop := X ≤ 1000000 ∧ (X = 1000000 ∨ prt gd X t) ∧ ∀ s', s' ≠ 0 → s' &&& t = s' → s < s' → gd s' → ∀ m, prt gd m (t ^^^ s') → X ≤ m + 1
theorem FW_0 {gd : Nat → Prop} : FW gd 0 0 := ⟨by omega, Or.inr rfl, fun _ _ => Nat.zero_le _⟩
theorem PI_i {gd : Nat → Prop} {t : Nat} : PI gd t t 1000000 := ⟨Nat.le_refl _, Or.inl rfl, fun s' _ h2 h3 => absurd (sub_le h2) (by omega)⟩
theorem PI_FW {gd : Nat → Prop} {t X : Nat} (ht : t ≠ 0) (h : PI gd t 0 X) : FW gd t X := by
  refine ⟨h.1, h.2.1, fun m hm => ?_⟩
  cases m with
  | zero => exact absurd hm ht
  | succ m =>
    obtain ⟨s, h1, h2, h3, h4⟩ := hm
    exact h.2.2 s h1 h2 (by omega) h3 m h4
theorem PI_n {gd : Nat → Prop} {t s X : Nat} (hs : 0 < s) (hst : s &&& t = s) (hg : ¬ gd s) (h : PI gd t s X) : PI gd t ((s - 1) &&& t) X := by
  refine ⟨h.1, h.2.1, fun s' h1 h2 h3 h4 m hm => ?_⟩
  rcases Nat.lt_trichotomy s s' with q | q | q
  · exact h.2.2 s' h1 h2 q h4 m hm
  · subst q; exact absurd h4 hg
  · exact absurd (nx_set s t s' hst h2 q) (by omega)
theorem PI_y {gd : Nat → Prop} {t s X Y : Nat} (hs : 0 < s) (hst : s &&& t = s) (hg : gd s) (h : PI gd t s X) (hY : FW gd (t ^^^ s) Y) : PI gd t ((s - 1) &&& t) (min X (1 + Y)) := by
  refine ⟨by have := h.1; omega, ?_, fun s' h1 h2 h3 h4 m hm => ?_⟩
  · by_cases q : X ≤ 1 + Y
    · rw [Nat.min_eq_left q]; exact h.2.1
    · rw [Nat.min_eq_right (by omega)]
      have hX := h.1
      rcases hY.2.1 with y | y
      · omega
      · rw [Nat.add_comm]; exact Or.inr ⟨s, by omega, hst, hg, y⟩
  · rcases Nat.lt_trichotomy s s' with q | q | q
    · have := h.2.2 s' h1 h2 q h4 m hm; omega
    · subst q; have := hY.2.2 m hm; omega
    · exact absurd (nx_set s t s' hst h2 q) (by omega)
def fwR (I : mI) (ko l : Nat) : Nat := (oR I ko (29 + l)).toNatClampNeg
def WFfR (I : mI) (ko nl : Nat) : Prop := ∀ l, l < nl → oR I ko (29 + l) = nI (fwR I ko l) ∧ fwR I ko l ≤ 9
def ibAS (I : mI) (ko a h : Nat) (k : Nat) (s : Nat) : Nat := (if (f_has (nI a) (nI k)) = 0 then (s + 0) else (if (I 106 k) = (nI h) then (s + (fwR I ko k)) else (s + 0)))
def ibA (I : mI) (ko a h : Nat) (s0 : Nat) : Nat → Nat
  | 0 => s0
  | k + 1 => ibAS I ko a h k (ibA I ko a h s0 k)
theorem l_ibA {S : Nat × (Nat → Int32)} {d n : Nat} {I : mI} {J : mJ} {R : mR} {ko nh nl : Nat} (hn : 122 ≤ n) (hR : m_fin R) (ho : I 95 23 = nI ko) (hk : ko < 7) (hh : I 95 24 = nI nh) (hnh : nh ≤ 6) (hl : I 95 25 = nI nl) (hnl : nl ≤ 10) (hW : WFk I ko) (hFf : WFfR I ko nl) {a fo ms : Nat} (hfo9 : fo ≤ 99) (hms9 : ms ≤ 10) {h : Nat} (hh6 : h < nh)  {s0 : Nat} {Q : Option Value → mI → mJ → mR → Prop}  (hx : AW S (d + 2) YM_isBag n n Q 72 [(6, .int (nI nl)), (5, .int (nI (ibA I ko a h s0 nl))), (0, .ref 95), (1, .int (nI a)), (2, .int (nI fo)), (3, .int (nI ms)), (4, .int (nI h))] [] I J R n) : ∀ m k, k + m = nl → ∀ s : Nat, ibA I ko a h s0 k = s → AW S (d + 2) YM_isBag n n Q 18 [(6, .int (nI k)), (5, .int (nI s)), (0, .ref 95), (1, .int (nI a)), (2, .int (nI fo)), (3, .int (nI ms)), (4, .int (nI h))] [] I J R n := by
  intro m
  induction m with
  | zero =>
    intro k hk9 s es
    rw [show k = nl by omega] at es ⊢
    subst es
    refine a_iload 0 dM_isBag_18 rfl ?_
    refine a_aload_n 2 dM_isBag_20 rfl rfl ?_
    refine a_geti dM_isBag_21 fl12_262 rfl ly_95 (by omega) ?_
    rw [show I 95 25 = (nI nl) from hl]
    refine a_icmp_geN (tgt := 72) dM_isBag_24 (by decide) (by omega) (by omega) (fun _ => ?_) (fun c => False.elim (by omega))
    exact hx
  | succ m ih =>
    intro k hk9 s es
    refine a_iload 0 dM_isBag_18 rfl ?_
    refine a_aload_n 2 dM_isBag_20 rfl rfl ?_
    refine a_geti dM_isBag_21 fl12_262 rfl ly_95 (by omega) ?_
    rw [show I 95 25 = (nI nl) from hl]
    refine a_icmp_geN (tgt := 72) dM_isBag_24 (by decide) (by omega) (by omega) (fun c => False.elim (by omega)) (fun _ => ?_)
    refine a_iload 1 dM_isBag_27 rfl ?_
    refine a_iload_n 3 dM_isBag_29 rfl rfl ?_
    refine a_iload 0 dM_isBag_30 rfl ?_
    refine a_callS (Q' := m_res (some (.int (f_has (nI a) (nI k)))) I J R) (as := [.int (nI a), .int (nI k)]) (st := [.int (nI s)]) dM_isBag_32 ml12_94 rfl (Nat.le_of_ble_eq_true rfl) (Nat.le_of_ble_eq_true rfl) rfl (Nat.le_refl _) (Nat.le_refl _) c_M_has (m_go ?_)
    show AW _ _ _ _ _ _ _ _ [.int (f_has (nI a) (nI k)), .int (nI s)] _ _ _ _
    refine a_if_eq (tgt := 62) dM_isBag_35 (by decide) (fun c35 => ?_) (fun c35 => ?_)
    · refine a_iconstN (a := 0) dM_isBag_62 (by decide) ?_
      refine a_iaddN (a := s) (b := 0) dM_isBag_63 ?_
      refine a_istore (lv' := [(5, .int (nI (s + 0))), (6, .int (nI k)), (0, .ref 95), (1, .int (nI a)), (2, .int (nI fo)), (3, .int (nI ms)), (4, .int (nI h))]) dM_isBag_64 (by decide) rfl ?_
      refine a_iincN (lv' := [(6, .int (nI (k + 1))), (5, .int (nI (s + 0))), (0, .ref 95), (1, .int (nI a)), (2, .int (nI fo)), (3, .int (nI ms)), (4, .int (nI h))]) (j := 1) dM_isBag_66 rfl (by decide) rfl ?_
      refine a_goto (tgt := 18) dM_isBag_69 (by decide) ?_
      have ez9 : ibA I ko a h s0 (k + 1) = (s + 0) := by
        show ibAS I ko a h k (ibA I ko a h s0 k) = _
        rw [es]
        unfold ibAS
        rw [if_pos c35]
      exact ih (k + 1) (by omega) (s + 0) ez9
    · refine a_aload_n 2 dM_isBag_38 rfl rfl ?_
      refine a_geta (r := 106) dM_isBag_39 fl12_41 rfl ly_95 (by omega) (rf_95_26 hR) ?_
      refine a_iload 0 dM_isBag_42 rfl ?_
      refine a_ialdN (a := k) dM_isBag_44 ly_106 (by omega) (by omega) (by decide) ?_
      rw [show I 106 k = I 106 k from rfl]
      refine a_iload 6 dM_isBag_45 rfl ?_
      refine a_icmp_ne (tgt := 62) dM_isBag_47 (by decide) (fun c47 => ?_) (fun c47 => ?_)
      · refine a_iconstN (a := 0) dM_isBag_62 (by decide) ?_
        refine a_iaddN (a := s) (b := 0) dM_isBag_63 ?_
        refine a_istore (lv' := [(5, .int (nI (s + 0))), (6, .int (nI k)), (0, .ref 95), (1, .int (nI a)), (2, .int (nI fo)), (3, .int (nI ms)), (4, .int (nI h))]) dM_isBag_64 (by decide) rfl ?_
        refine a_iincN (lv' := [(6, .int (nI (k + 1))), (5, .int (nI (s + 0))), (0, .ref 95), (1, .int (nI a)), (2, .int (nI fo)), (3, .int (nI ms)), (4, .int (nI h))]) (j := 1) dM_isBag_66 rfl (by decide) rfl ?_
        refine a_goto (tgt := 18) dM_isBag_69 (by decide) ?_
        have ez9 : ibA I ko a h s0 (k + 1) = (s + 0) := by
          show ibAS I ko a h k (ibA I ko a h s0 k) = _
          rw [es]
          unfold ibAS
          rw [if_neg c35, if_neg c47]
        exact ih (k + 1) (by omega) (s + 0) ez9
      · refine a_aload_n 2 dM_isBag_50 rfl rfl ?_
        refine a_bipushN (a := 29) dM_isBag_51 (by decide) ?_
        refine a_iload 0 dM_isBag_53 rfl ?_
        refine a_iaddN (a := 29) (b := k) dM_isBag_55 ?_
        refine a_callV (Q' := m_res (some (.int (oR I ko (29 + k)))) I J R) (as := [.int (nI (29 + k))]) (st := [.int (nI s)]) dM_isBag_56 ml12_255 rfl (Nat.le_of_ble_eq_true rfl) ly_95 rfl rfl (by decide) (by omega) (Nat.le_of_ble_eq_true rfl) rfl (Nat.le_refl _) (Nat.le_refl _) (c_M_of hn hR ho (by omega)) (m_go ?_)
        show AW _ _ _ _ _ _ _ _ [.int (oR I ko (29 + k)), .int (nI s)] _ _ _ _
        rw [show (oR I ko (29 + k)) = (nI (fwR I ko k)) from (hFf k (by omega)).1]
        refine a_goto (tgt := 63) dM_isBag_59 (by decide) ?_
        refine a_iaddN (a := s) (b := (fwR I ko k)) dM_isBag_63 ?_
        refine a_istore (lv' := [(5, .int (nI (s + (fwR I ko k)))), (6, .int (nI k)), (0, .ref 95), (1, .int (nI a)), (2, .int (nI fo)), (3, .int (nI ms)), (4, .int (nI h))]) dM_isBag_64 (by decide) rfl ?_
        refine a_iincN (lv' := [(6, .int (nI (k + 1))), (5, .int (nI (s + (fwR I ko k)))), (0, .ref 95), (1, .int (nI a)), (2, .int (nI fo)), (3, .int (nI ms)), (4, .int (nI h))]) (j := 1) dM_isBag_66 rfl (by decide) rfl ?_
        refine a_goto (tgt := 18) dM_isBag_69 (by decide) ?_
        have ez9 : ibA I ko a h s0 (k + 1) = (s + (fwR I ko k)) := by
          show ibAS I ko a h k (ibA I ko a h s0 k) = _
          rw [es]
          unfold ibAS
          rw [if_neg c35, if_pos c47]
        exact ih (k + 1) (by omega) (s + (fwR I ko k)) ez9
theorem ibA_le {I : mI} {ko s h nl : Nat} (hFf : WFfR I ko nl) : ∀ k, k ≤ nl → ibA I ko s h 0 k ≤ 9 * k := by
  intro k
  induction k with
  | zero => intro _; exact Nat.le_refl _
  | succ k ih =>
    intro hk
    have h1 := ih (by omega)
    have h2 := (hFf k (by omega)).2
    show ibAS I ko s h k (ibA I ko s h 0 k) ≤ _
    unfold ibAS
    split
    · omega
    · split <;> omega
/-- a bag that may go -/
abbrev gdR (I : mI) (ko nh nl fo ms s : Nat) : Prop := (∀ h, h < nh → ibA I ko s h 0 nl ≤ fo) ∧ onesN (nI s) 10 ≤ ms
abbrev gvR (I : mI) (ko nh nl fo ms s : Nat) : Int32 := if gdR I ko nh nl fo ms s then 1 else 0
theorem l_ibB {S : Nat × (Nat → Int32)} {d n : Nat} {I : mI} {J : mJ} {R : mR} {ko nh nl : Nat} (hn : 122 ≤ n) (hR : m_fin R) (ho : I 95 23 = nI ko) (hk : ko < 7) (hh : I 95 24 = nI nh) (hnh : nh ≤ 6) (hl : I 95 25 = nI nl) (hnl : nl ≤ 10) (hW : WFk I ko) (hFf : WFfR I ko nl) {a fo ms : Nat} (hfo9 : fo ≤ 99) (hms9 : ms ≤ 10)  {Q : Option Value → mI → mJ → mR → Prop} (h0 : ∀ k, k < nh → ¬ (ibA I ko a k 0 nl ≤ fo) → Q (some (.int 0)) I J R) (hx : (∀ k, k < nh → ibA I ko a k 0 nl ≤ fo) → AW S (d + 2) YM_isBag n n Q 86 [(4, .int (nI nh)), (0, .ref 95), (1, .int (nI a)), (2, .int (nI fo)), (3, .int (nI ms))] [] I J R n) : ∀ m k, k + m = nh → (∀ j, j < k → ibA I ko a j 0 nl ≤ fo) → AW S (d + 2) YM_isBag n n Q 3 [(4, .int (nI k)), (0, .ref 95), (1, .int (nI a)), (2, .int (nI fo)), (3, .int (nI ms))] [] I J R n := by
  intro m
  induction m with
  | zero =>
    intro k hk9 hp
    rw [show k = nh by omega] at hp ⊢
    refine a_iload 0 dM_isBag_3 rfl ?_
    refine a_aload_n 1 dM_isBag_5 rfl rfl ?_
    refine a_geti dM_isBag_6 fl12_259 rfl ly_95 (by omega) ?_
    rw [show I 95 24 = (nI nh) from hh]
    refine a_icmp_geN (tgt := 86) dM_isBag_9 (by decide) (by omega) (by omega) (fun _ => ?_) (fun c => False.elim (by omega))
    exact hx hp
  | succ m ih =>
    intro k hk9 hp
    have hle := ibA_le (s := a) (h := k) hFf nl (Nat.le_refl _)
    refine a_iload 0 dM_isBag_3 rfl ?_
    refine a_aload_n 1 dM_isBag_5 rfl rfl ?_
    refine a_geti dM_isBag_6 fl12_259 rfl ly_95 (by omega) ?_
    rw [show I 95 24 = (nI nh) from hh]
    refine a_icmp_geN (tgt := 86) dM_isBag_9 (by decide) (by omega) (by omega) (fun c => False.elim (by omega)) (fun _ => ?_)
    refine a_iconstN (a := 0) dM_isBag_12 (by decide) ?_
    refine a_istore (lv' := [(5, .int (nI 0)), (4, .int (nI k)), (0, .ref 95), (1, .int (nI a)), (2, .int (nI fo)), (3, .int (nI ms))]) dM_isBag_13 (by decide) rfl ?_
    refine a_iconstN (a := 0) dM_isBag_15 (by decide) ?_
    refine a_istore (lv' := [(6, .int (nI 0)), (5, .int (nI 0)), (4, .int (nI k)), (0, .ref 95), (1, .int (nI a)), (2, .int (nI fo)), (3, .int (nI ms))]) dM_isBag_16 (by decide) rfl ?_
    refine a_locs (lv' := [(6, .int (nI 0)), (5, .int (nI 0)), (0, .ref 95), (1, .int (nI a)), (2, .int (nI fo)), (3, .int (nI ms)), (4, .int (nI k))]) [0, 1, 3, 4, 5, 6, 2] rfl ?_
    refine l_ibA (s0 := 0) hn hR ho hk hh hnh hl hnl hW hFf (a := a) hfo9 hms9 (h := k) (by omega) ?_ nl 0 (by omega) _ rfl
    refine a_iload 1 dM_isBag_72 rfl ?_
    refine a_iload_n 4 dM_isBag_74 rfl rfl ?_
    refine a_icmp_leN (tgt := 80) dM_isBag_75 (by decide) (by omega) (by omega) (fun c75 => ?_) (fun c75 => ?_)
    · refine a_iincN (lv' := [(4, .int (nI (k + 1))), (6, .int (nI nl)), (5, .int (nI (ibA I ko a k 0 nl))), (0, .ref 95), (1, .int (nI a)), (2, .int (nI fo)), (3, .int (nI ms))]) (j := 6) dM_isBag_80 rfl (by decide) rfl ?_
      refine a_goto (tgt := 3) dM_isBag_83 (by decide) ?_
      refine a_locs (lv' := [(4, .int (nI (k + 1))), (0, .ref 95), (1, .int (nI a)), (2, .int (nI fo)), (3, .int (nI ms))]) [0, 3, 4, 5, 6] rfl ?_
      exact ih (k + 1) (by omega) (fun j hj => by
        rcases Nat.lt_or_eq_of_le (Nat.le_of_lt_succ hj) with h1 | h1
        · exact hp j h1
        · subst h1; exact (by omega))
    · refine a_iconstN (a := 0) dM_isBag_78 (by decide) ?_
      exact a_zret dM_isBag_79 rfl (by rfl) (h0 k (by omega) (fun q => by omega))
theorem c_M_isBag {S : Nat × (Nat → Int32)} {d n : Nat} {I : mI} {J : mJ} {R : mR} {ko nh nl : Nat} (hn : 122 ≤ n) (hR : m_fin R) (ho : I 95 23 = nI ko) (hk : ko < 7) (hh : I 95 24 = nI nh) (hnh : nh ≤ 6) (hl : I 95 25 = nI nl) (hnl : nl ≤ 10) (hW : WFk I ko) (hFf : WFfR I ko nl) {a fo ms : Nat} (hfo9 : fo ≤ 99) (hms9 : ms ≤ 10)  : RUN S (d + 2) YM_isBag [.ref 95, .int (nI a), .int (nI fo), .int (nI ms)] I J R n (some (.int (gvR I ko nh nl fo ms a))) I J R n := by
  show AW S _ YM_isBag n n _ 0 [(0, .ref 95), (1, .int (nI a)), (2, .int (nI fo)), (3, .int (nI ms))] [] I J R n
  have ho10 := onesN_le (nI a) 10
  refine a_iconstN (a := 0) dM_isBag_0 (by decide) ?_
  refine a_istore (lv' := [(4, .int (nI 0)), (0, .ref 95), (1, .int (nI a)), (2, .int (nI fo)), (3, .int (nI ms))]) dM_isBag_1 (by decide) rfl ?_
  refine a_locs (lv' := [(4, .int (nI 0)), (0, .ref 95), (1, .int (nI a)), (2, .int (nI fo)), (3, .int (nI ms))]) [0, 1, 2, 3, 4] rfl ?_
  refine l_ibB hn hR ho hk hh hnh hl hnl hW hFf (a := a) hfo9 hms9 (fun k hk2 hp => ?_) (fun hp => ?_) nh 0 (by omega) (fun j hj => absurd hj (Nat.not_lt_zero _))
  · exact ⟨by unfold gvR; rw [if_neg (fun q => hp (q.1 k hk2))], rfl, rfl, rfl⟩
  · refine a_iload_n 2 dM_isBag_86 rfl rfl ?_
    refine a_callS (Q' := m_res (some (.int (nI (onesN (nI a) 10)))) I J R) (as := [.int (nI a)]) (st := []) dM_isBag_87 ml12_369 rfl (Nat.le_of_ble_eq_true rfl) (Nat.le_of_ble_eq_true rfl) rfl (Nat.le_refl _) (Nat.le_refl _) c_M_ones (m_go ?_)
    show AW _ _ _ _ _ _ _ _ [.int (nI (onesN (nI a) 10))] _ _ _ _
    refine a_iload_n 4 dM_isBag_90 rfl rfl ?_
    refine a_icmp_gtN (tgt := 98) dM_isBag_91 (by decide) (by omega) (by omega) (fun c91 => ?_) (fun c91 => ?_)
    · refine a_iconstN (a := 0) dM_isBag_98 (by decide) ?_
      exact a_zret dM_isBag_99 rfl (by rfl) ⟨by unfold gvR; rw [if_neg (show ¬ gdR I ko nh nl fo ms a from fun q => by have := q.2; omega)]; rfl, rfl, rfl, rfl⟩
    · refine a_iconstN (a := 1) dM_isBag_94 (by decide) ?_
      refine a_goto (tgt := 99) dM_isBag_95 (by decide) ?_
      exact a_zret dM_isBag_99 rfl (by rfl) ⟨by unfold gvR; rw [if_pos (show gdR I ko nh nl fo ms a from ⟨hp, by omega⟩)]; rfl, rfl, rfl, rfl⟩
theorem ibAS_eq {I I' : mI} {ko s h k c : Nat} (h1 : oR I' ko = oR I ko) (h2 : I' 106 = I 106) : ibAS I' ko s h k c = ibAS I ko s h k c := by unfold ibAS fwR; rw [h1, h2]
theorem ibA_eq {I I' : mI} {ko s h : Nat} (h1 : oR I' ko = oR I ko) (h2 : I' 106 = I 106) : ∀ k, ibA I' ko s h 0 k = ibA I ko s h 0 k := by
  intro k
  induction k with
  | zero => rfl
  | succ k ih =>
    show ibAS I' ko s h k (ibA I' ko s h 0 k) = ibAS I ko s h k (ibA I ko s h 0 k)
    rw [ih, ibAS_eq h1 h2]
theorem gdR_eq {I I' : mI} {ko nh nl fo ms s : Nat} (h1 : oR I' ko = oR I ko) (h2 : I' 106 = I 106) : gdR I' ko nh nl fo ms s ↔ gdR I ko nh nl fo ms s := by
  constructor
  · intro q; exact ⟨fun h hh => by rw [← ibA_eq h1 h2]; exact q.1 h hh, q.2⟩
  · intro q; exact ⟨fun h hh => by rw [ibA_eq h1 h2]; exact q.1 h hh, q.2⟩
theorem gvR_eq {I I' : mI} {ko nh nl fo ms s : Nat} (h1 : oR I' ko = oR I ko) (h2 : I' 106 = I 106) : gvR I' ko nh nl fo ms s = gvR I ko nh nl fo ms s := by
  by_cases h : gdR I ko nh nl fo ms s
  · rw [show gvR I ko nh nl fo ms s = 1 from if_pos h, show gvR I' ko nh nl fo ms s = 1 from if_pos ((gdR_eq h1 h2).mpr h)]
  · rw [show gvR I ko nh nl fo ms s = 0 from if_neg h, show gvR I' ko nh nl fo ms s = 0 from if_neg (fun q => h ((gdR_eq h1 h2).mp q))]
theorem gv01 {I : mI} {ko nh nl fo ms s : Nat} : gvR I ko nh nl fo ms s = 0 ∨ gvR I ko nh nl fo ms s = 1 := by
  by_cases h : gdR I ko nh nl fo ms s
  · exact Or.inr (if_pos h)
  · exact Or.inl (if_neg h)
theorem f_le_nI {a b : Nat} (ha : a < 2 ^ 31) (hb : b < 2 ^ 31) : f_le (nI a) (nI b) = nI (min a b) := by
  unfold f_le
  by_cases h : a < b
  · rw [if_pos (Int32.lt_iff_toInt_lt.mpr (by rw [nI_toInt ha, nI_toInt hb]; omega)), Nat.min_eq_left (by omega)]
  · rw [if_neg (fun q => h (by have := Int32.lt_iff_toInt_lt.mp q; rw [nI_toInt ha, nI_toInt hb] at this; omega)), Nat.min_eq_right (by omega)]
theorem PI_0 {gd : Nat → Prop} : PI gd 0 0 0 := ⟨by omega, Or.inr rfl, fun s' h1 h2 => absurd (Nat.le_zero.mp (sub_le h2)) h1⟩
theorem l_fd2 {S : Nat × (Nat → Int32)} {d n : Nat} {I : mI} {J : mJ} {R : mR} {ko nh nl : Nat} (hn : 122 ≤ n) (hR : m_fin R) (ho : I 95 23 = nI ko) (hk : ko < 7) (hh : I 95 24 = nI nh) (hnh : nh ≤ 6) (hl : I 95 25 = nI nl) (hnl : nl ≤ 10) (hW : WFk I ko) (hFf : WFfR I ko nl) {fo ms : Nat} (hfo9 : fo ≤ 99) (hms9 : ms ≤ 10) {P t : Nat} (hP : P ≤ 1024) (ht : t < P) {G : Nat → Int32} (hG : ∀ j, j ≤ t → G j = gvR I ko nh nl fo ms j) {Q : Option Value → mI → mJ → mR → Prop} (hx : ∀ F, (∀ j, j < t + 1 → ∃ X, F j = nI X ∧ FW (gdR I ko nh nl fo ms) j X) → AW S (d + 3) YM_findDays n n Q 124 [(4, .int (nI t)), (0, .ref 95), (1, .int (nI fo)), (2, .int (nI ms)), (3, .int (nI (P - 1)))] [] (m_row (m_row I 111 G) 112 F) J R n) : ∀ s, s &&& t = s → ∀ (F : Nat → Int32) X, F t = nI X → (t = 0 → X = 0) → PI (gdR I ko nh nl fo ms) t s X → (∀ j, j < t → ∃ X, F j = nI X ∧ FW (gdR I ko nh nl fo ms) j X) → AW S (d + 3) YM_findDays n n Q 56 [(5, .int (nI s)), (4, .int (nI t)), (0, .ref 95), (1, .int (nI fo)), (2, .int (nI ms)), (3, .int (nI (P - 1)))] [] (m_row (m_row I 111 G) 112 F) J R n := by
  intro s
  induction s using Nat.strongRecOn with
  | ind s ih =>
    intro hst F X hX hz hPI hF
    have hle := sub_le hst
    have hX6 := hPI.1
    by_cases hs : s = 0
    · subst hs
      refine a_iload 0 dM_findDays_56 rfl ?_
      refine a_if_le (tgt := 124) dM_findDays_58 (by decide) (fun _ => ?_) (fun c => False.elim (c (by decide)))
      refine a_locs (lv' := [(4, .int (nI t)), (0, .ref 95), (1, .int (nI fo)), (2, .int (nI ms)), (3, .int (nI (P - 1)))]) [1, 2, 3, 4, 5] rfl ?_
      exact hx F (fun j hj => by
        rcases Nat.lt_or_eq_of_le (Nat.le_of_lt_succ hj) with h1 | h1
        · exact hF j h1
        · subst h1
          refine ⟨X, hX, ?_⟩
          by_cases hj0 : j = 0
          · have := hz hj0; subst hj0; subst this; exact FW_0
          · exact PI_FW hj0 hPI)
    · have hs0 : 0 < s := by omega
      have hxt := xor_lt hst hs0
      have hGs := hG s hle
      obtain ⟨Y, hY, hYf⟩ := hF (t ^^^ s) hxt
      have hY6 := hYf.1
      have hnx := nx_lt (t := t) hs0
      by_cases hg : gdR I ko nh nl fo ms s
      · refine a_iload 0 dM_findDays_56 rfl ?_
        refine a_if_le (tgt := 124) dM_findDays_58 (by decide) (fun c => False.elim (absurd (nI_le0 (by omega) c) hs)) (fun _ => ?_)
        refine a_aload_n 2 dM_findDays_61 rfl rfl ?_
        refine a_geta (r := 112) dM_findDays_62 fl12_60 rfl ly_95 (by omega) (rf_95_42 hR) ?_
        refine a_iload 1 dM_findDays_65 rfl ?_
        refine a_aload_n 2 dM_findDays_67 rfl rfl ?_
        refine a_geta (r := 111) dM_findDays_68 fl12_56 rfl ly_95 (by omega) (rf_95_41 hR) ?_
        refine a_iload 0 dM_findDays_71 rfl ?_
        refine a_zaldN (a := s) dM_findDays_73 ly_111 (by omega) (by omega) (by decide) ?_
        rw [show (m_row (m_row I 111 G) 112 F) 111 s = G s from rfl]
        rw [show (G s) = 1 from hGs.trans (if_pos hg)]
        refine a_if_eq (tgt := 104) dM_findDays_74 (by decide) (fun c => False.elim (absurd c (by decide))) (fun _ => ?_)
        refine a_aload_n 2 dM_findDays_77 rfl rfl ?_
        refine a_geta (r := 112) dM_findDays_78 fl12_60 rfl ly_95 (by omega) (rf_95_42 hR) ?_
        refine a_iload 1 dM_findDays_81 rfl ?_
        refine a_ialdN (a := t) dM_findDays_83 ly_112 (by omega) (by omega) (by decide) ?_
        rw [show (m_row (m_row I 111 G) 112 F) 112 t = F t from rfl]
        rw [show (F t) = (nI X) from hX]
        refine a_iconstN (a := 1) dM_findDays_84 (by decide) ?_
        refine a_aload_n 2 dM_findDays_85 rfl rfl ?_
        refine a_geta (r := 112) dM_findDays_86 fl12_60 rfl ly_95 (by omega) (rf_95_42 hR) ?_
        refine a_iload 1 dM_findDays_89 rfl ?_
        refine a_iload 0 dM_findDays_91 rfl ?_
        refine a_iconst (v := -1) dM_findDays_93 (by decide) ?_
        refine a_ixor dM_findDays_94 ?_
        refine a_iand dM_findDays_95 ?_
        rw [show ((nI t) &&& ((nI s) ^^^ (-1))) = (nI (t ^^^ s)) from (mn_nI hst)]
        refine a_ialdN (a := (t ^^^ s)) dM_findDays_96 ly_112 (by omega) (by omega) (by decide) ?_
        rw [show (m_row (m_row I 111 G) 112 F) 112 (t ^^^ s) = F (t ^^^ s) from rfl]
        rw [show (F (t ^^^ s)) = (nI Y) from hY]
        refine a_iaddN (a := 1) (b := Y) dM_findDays_97 ?_
        refine a_callS (Q' := m_res (some (.int (f_le (nI X) (nI (1 + Y))))) (m_row (m_row I 111 G) 112 F) J R) (as := [.int (nI X), .int (nI (1 + Y))]) (st := [.int (nI t), .ref 112]) dM_findDays_98 ml12_355 rfl (Nat.le_of_ble_eq_true rfl) (Nat.le_of_ble_eq_true rfl) rfl (Nat.le_refl _) (Nat.le_refl _) c_M_lesser (m_go ?_)
        show AW _ _ _ _ _ _ _ _ [.int (f_le (nI X) (nI (1 + Y))), .int (nI t), .ref 112] _ _ _ _
        rw [show (f_le (nI X) (nI (1 + Y))) = (nI (min X (1 + Y))) from (f_le_nI (by omega) (by omega))]
        refine a_goto (tgt := 111) dM_findDays_101 (by decide) ?_
        refine a_iastN (a := t) dM_findDays_111 ly_112 (by omega) (by omega) (by decide) ?_
        rw [show m_up (m_row (m_row I 111 G) 112 F) 112 t (nI (min X (1 + Y))) = (m_row (m_row I 111 G) 112 (va_up F t (nI (min X (1 + Y))))) from (by rw [m_up_r])]
        refine a_iload 0 dM_findDays_112 rfl ?_
        refine a_iconstN (a := 1) dM_findDays_114 (by decide) ?_
        refine a_isubN dM_findDays_115 (by omega) ?_
        refine a_iload 1 dM_findDays_116 rfl ?_
        refine a_iand dM_findDays_118 ?_
        rw [show ((nI (s - 1)) &&& (nI t)) = (nI ((s - 1) &&& t)) from and_nI]
        refine a_istore (lv' := [(5, .int (nI ((s - 1) &&& t))), (4, .int (nI t)), (0, .ref 95), (1, .int (nI fo)), (2, .int (nI ms)), (3, .int (nI (P - 1)))]) dM_findDays_119 (by decide) rfl ?_
        refine a_goto (tgt := 56) dM_findDays_121 (by decide) ?_
        refine a_locs (lv' := [(5, .int (nI ((s - 1) &&& t))), (4, .int (nI t)), (0, .ref 95), (1, .int (nI fo)), (2, .int (nI ms)), (3, .int (nI (P - 1)))]) [0, 1, 2, 3, 4, 5] rfl ?_
        exact ih ((s - 1) &&& t) hnx nx_sub (va_up F t (nI (min X (1 + Y)))) (min X (1 + Y)) vup_eq (fun q => absurd hle (by omega)) (PI_y hs0 hst hg hPI hYf) (fun j hj => by
          obtain ⟨X9, h1, h2⟩ := hF j hj
          exact ⟨X9, by rw [vup_ne (by omega)]; exact h1, h2⟩)
      · refine a_iload 0 dM_findDays_56 rfl ?_
        refine a_if_le (tgt := 124) dM_findDays_58 (by decide) (fun c => False.elim (absurd (nI_le0 (by omega) c) hs)) (fun _ => ?_)
        refine a_aload_n 2 dM_findDays_61 rfl rfl ?_
        refine a_geta (r := 112) dM_findDays_62 fl12_60 rfl ly_95 (by omega) (rf_95_42 hR) ?_
        refine a_iload 1 dM_findDays_65 rfl ?_
        refine a_aload_n 2 dM_findDays_67 rfl rfl ?_
        refine a_geta (r := 111) dM_findDays_68 fl12_56 rfl ly_95 (by omega) (rf_95_41 hR) ?_
        refine a_iload 0 dM_findDays_71 rfl ?_
        refine a_zaldN (a := s) dM_findDays_73 ly_111 (by omega) (by omega) (by decide) ?_
        rw [show (m_row (m_row I 111 G) 112 F) 111 s = G s from rfl]
        rw [show (G s) = 0 from hGs.trans (if_neg hg)]
        refine a_if_eq (tgt := 104) dM_findDays_74 (by decide) (fun _ => ?_) (fun c => False.elim (c rfl))
        refine a_aload_n 2 dM_findDays_104 rfl rfl ?_
        refine a_geta (r := 112) dM_findDays_105 fl12_60 rfl ly_95 (by omega) (rf_95_42 hR) ?_
        refine a_iload 1 dM_findDays_108 rfl ?_
        refine a_ialdN (a := t) dM_findDays_110 ly_112 (by omega) (by omega) (by decide) ?_
        rw [show (m_row (m_row I 111 G) 112 F) 112 t = F t from rfl]
        rw [show (F t) = (nI X) from hX]
        refine a_iastN (a := t) dM_findDays_111 ly_112 (by omega) (by omega) (by decide) ?_
        rw [show m_up (m_row (m_row I 111 G) 112 F) 112 t (nI X) = (m_row (m_row I 111 G) 112 (va_up F t (nI X))) from (by rw [m_up_r])]
        refine a_iload 0 dM_findDays_112 rfl ?_
        refine a_iconstN (a := 1) dM_findDays_114 (by decide) ?_
        refine a_isubN dM_findDays_115 (by omega) ?_
        refine a_iload 1 dM_findDays_116 rfl ?_
        refine a_iand dM_findDays_118 ?_
        rw [show ((nI (s - 1)) &&& (nI t)) = (nI ((s - 1) &&& t)) from and_nI]
        refine a_istore (lv' := [(5, .int (nI ((s - 1) &&& t))), (4, .int (nI t)), (0, .ref 95), (1, .int (nI fo)), (2, .int (nI ms)), (3, .int (nI (P - 1)))]) dM_findDays_119 (by decide) rfl ?_
        refine a_goto (tgt := 56) dM_findDays_121 (by decide) ?_
        refine a_locs (lv' := [(5, .int (nI ((s - 1) &&& t))), (4, .int (nI t)), (0, .ref 95), (1, .int (nI fo)), (2, .int (nI ms)), (3, .int (nI (P - 1)))]) [0, 1, 2, 3, 4, 5] rfl ?_
        exact ih ((s - 1) &&& t) hnx nx_sub (va_up F t (nI X)) X vup_eq (fun q => absurd hle (by omega)) (PI_n hs0 hst hg hPI) (fun j hj => by
          obtain ⟨X9, h1, h2⟩ := hF j hj
          exact ⟨X9, by rw [vup_ne (by omega)]; exact h1, h2⟩)
theorem l_fd1 {S : Nat × (Nat → Int32)} {d n : Nat} {I : mI} {J : mJ} {R : mR} {ko nh nl : Nat} (hn : 122 ≤ n) (hR : m_fin R) (ho : I 95 23 = nI ko) (hk : ko < 7) (hh : I 95 24 = nI nh) (hnh : nh ≤ 6) (hl : I 95 25 = nI nl) (hnl : nl ≤ 10) (hW : WFk I ko) (hFf : WFfR I ko nl) {fo ms : Nat} (hfo9 : fo ≤ 99) (hms9 : ms ≤ 10) {P : Nat} (hP0 : 0 < P) (hP : P ≤ 1024) {Q : Option Value → mI → mJ → mR → Prop} (hx : ∀ G F : Nat → Int32, (∀ j, j < P → G j = gvR I ko nh nl fo ms j) → (∀ j, j < P → ∃ X, F j = nI X ∧ FW (gdR I ko nh nl fo ms) j X) → AW S (d + 3) YM_findDays n n Q 130 [(4, .int (nI P)), (0, .ref 95), (1, .int (nI fo)), (2, .int (nI ms)), (3, .int (nI (P - 1)))] [] (m_row (m_row I 111 G) 112 F) J R n) : ∀ m t, t + m = P → ∀ (G F : Nat → Int32), (∀ j, j < t → G j = gvR I ko nh nl fo ms j) → (∀ j, j < t → ∃ X, F j = nI X ∧ FW (gdR I ko nh nl fo ms) j X) → AW S (d + 3) YM_findDays n n Q 12 [(4, .int (nI t)), (0, .ref 95), (1, .int (nI fo)), (2, .int (nI ms)), (3, .int (nI (P - 1)))] [] (m_row (m_row I 111 G) 112 F) J R n := by
  intro m
  induction m with
  | zero =>
    intro t ht G F hG hF
    obtain rfl : t = P := by omega
    refine a_iload 0 dM_findDays_12 rfl ?_
    refine a_iload_n 4 dM_findDays_14 rfl rfl ?_
    refine a_icmp_gtN (tgt := 130) dM_findDays_15 (by decide) (by omega) (by omega) (fun _ => ?_) (fun c => False.elim (by omega))
    exact hx G F hG hF
  | succ m ih =>
    intro t ht G F hG hF
    refine a_iload 0 dM_findDays_12 rfl ?_
    refine a_iload_n 4 dM_findDays_14 rfl rfl ?_
    refine a_icmp_gtN (tgt := 130) dM_findDays_15 (by decide) (by omega) (by omega) (fun c => False.elim (by omega)) (fun _ => ?_)
    refine a_aload_n 1 dM_findDays_18 rfl rfl ?_
    refine a_geta (r := 111) dM_findDays_19 fl12_56 rfl ly_95 (by omega) (rf_95_41 hR) ?_
    refine a_iload 0 dM_findDays_22 rfl ?_
    refine a_aload_n 1 dM_findDays_24 rfl rfl ?_
    refine a_iload 0 dM_findDays_25 rfl ?_
    refine a_iload_n 2 dM_findDays_27 rfl rfl ?_
    refine a_iload_n 3 dM_findDays_28 rfl rfl ?_
    refine a_callV (Q' := m_res (some (.int (gvR I ko nh nl fo ms t))) (m_row (m_row I 111 G) 112 F) J R) (as := [.int (nI t), .int (nI fo), .int (nI ms)]) (st := [.int (nI t), .ref 111]) dM_findDays_29 ml12_417 rfl (Nat.le_of_ble_eq_true rfl) ly_95 rfl rfl (by decide) (by omega) (Nat.le_of_ble_eq_true rfl) rfl (Nat.le_refl _) (Nat.le_refl _) (by have h := c_M_isBag (S := S) (d := d) (n := n) (J := J) (R := R) (I := (m_row (m_row I 111 G) 112 F)) (nh := nh) (nl := nl) hn hR (ko := ko) ho hk hh hnh hl hnl hW hFf (a := t) (fo := fo) (ms := ms) hfo9 hms9; rw [gvR_eq (I := I) (I' := (m_row (m_row I 111 G) 112 F)) rfl rfl] at h; exact h) (m_go ?_)
    show AW _ _ _ _ _ _ _ _ [.int (gvR I ko nh nl fo ms t), .int (nI t), .ref 111] _ _ _ _
    refine a_zastN (a := t) gv01 dM_findDays_32 ly_111 (by omega) (by omega) (by decide) ?_
    rw [show m_up (m_row (m_row I 111 G) 112 F) 111 t (gvR I ko nh nl fo ms t) = (m_row (m_row I 111 (va_up G t (gvR I ko nh nl fo ms t))) 112 F) from (by rw [m_up_comm (by decide), m_up_r])]
    refine a_aload_n 1 dM_findDays_33 rfl rfl ?_
    refine a_geta (r := 112) dM_findDays_34 fl12_60 rfl ly_95 (by omega) (rf_95_42 hR) ?_
    refine a_iload 0 dM_findDays_37 rfl ?_
    by_cases hz : t = 0
    · refine a_iload 0 dM_findDays_39 rfl ?_
      refine a_if_ne (tgt := 48) dM_findDays_41 (by decide) (fun c => False.elim (c (by rw [hz]; rfl))) (fun _ => ?_)
      refine a_iconstN (a := 0) dM_findDays_44 (by decide) ?_
      refine a_goto (tgt := 51) dM_findDays_45 (by decide) ?_
      refine a_iastN (a := t) dM_findDays_51 ly_112 (by omega) (by omega) (by decide) ?_
      rw [show m_up (m_row (m_row I 111 (va_up G t (gvR I ko nh nl fo ms t))) 112 F) 112 t (nI 0) = (m_row (m_row I 111 (va_up G t (gvR I ko nh nl fo ms t))) 112 (va_up F t (nI 0))) from (by rw [m_up_r])]
      refine a_iload 0 dM_findDays_52 rfl ?_
      refine a_istore (lv' := [(5, .int (nI t)), (4, .int (nI t)), (0, .ref 95), (1, .int (nI fo)), (2, .int (nI ms)), (3, .int (nI (P - 1)))]) dM_findDays_54 (by decide) rfl ?_
      refine a_locs (lv' := [(5, .int (nI t)), (4, .int (nI t)), (0, .ref 95), (1, .int (nI fo)), (2, .int (nI ms)), (3, .int (nI (P - 1)))]) [0, 1, 2, 3, 4, 5] rfl ?_
      refine l_fd2 hn hR ho hk hh hnh hl hnl hW hFf hfo9 hms9 hP (t := t) (by omega) (G := (va_up G t (gvR I ko nh nl fo ms t))) (fun j hj => ?_) (fun F3 hF3 => ?_) t (Nat.and_self t) (va_up F t (nI 0)) 0 vup_eq (fun q => rfl) (by subst hz; exact PI_0) (fun j hj => ?_)
      · rcases Nat.lt_or_eq_of_le hj with h1 | h1
        · rw [vup_ne (by omega)]; exact hG j h1
        · subst h1; exact vup_eq
      · refine a_iincN (lv' := [(4, .int (nI (t + 1))), (0, .ref 95), (1, .int (nI fo)), (2, .int (nI ms)), (3, .int (nI (P - 1)))]) (j := 0) dM_findDays_124 rfl (by decide) rfl ?_
        refine a_goto (tgt := 12) dM_findDays_127 (by decide) ?_
        refine a_locs (lv' := [(4, .int (nI (t + 1))), (0, .ref 95), (1, .int (nI fo)), (2, .int (nI ms)), (3, .int (nI (P - 1)))]) [0, 1, 2, 3, 4] rfl ?_
        exact ih (t + 1) (by omega) (va_up G t (gvR I ko nh nl fo ms t)) F3 (fun j hj => by
          rcases Nat.lt_or_eq_of_le (Nat.le_of_lt_succ hj) with h1 | h1
          · rw [vup_ne (by omega)]; exact hG j h1
          · subst h1; exact vup_eq) hF3
      · obtain ⟨X9, h1, h2⟩ := hF j hj
        exact ⟨X9, by rw [vup_ne (by omega)]; exact h1, h2⟩
    · refine a_iload 0 dM_findDays_39 rfl ?_
      refine a_if_ne (tgt := 48) dM_findDays_41 (by decide) (fun _ => ?_) (fun c => False.elim (nI_ne0 (by omega) (by omega) c))
      refine a_ldcw (v := 1000000) dM_findDays_48 cn12_349 ?_
      refine a_iastN (a := t) dM_findDays_51 ly_112 (by omega) (by omega) (by decide) ?_
      rw [show m_up (m_row (m_row I 111 (va_up G t (gvR I ko nh nl fo ms t))) 112 F) 112 t 1000000 = (m_row (m_row I 111 (va_up G t (gvR I ko nh nl fo ms t))) 112 (va_up F t 1000000)) from (by rw [m_up_r])]
      refine a_iload 0 dM_findDays_52 rfl ?_
      refine a_istore (lv' := [(5, .int (nI t)), (4, .int (nI t)), (0, .ref 95), (1, .int (nI fo)), (2, .int (nI ms)), (3, .int (nI (P - 1)))]) dM_findDays_54 (by decide) rfl ?_
      refine a_locs (lv' := [(5, .int (nI t)), (4, .int (nI t)), (0, .ref 95), (1, .int (nI fo)), (2, .int (nI ms)), (3, .int (nI (P - 1)))]) [0, 1, 2, 3, 4, 5] rfl ?_
      refine l_fd2 hn hR ho hk hh hnh hl hnl hW hFf hfo9 hms9 hP (t := t) (by omega) (G := (va_up G t (gvR I ko nh nl fo ms t))) (fun j hj => ?_) (fun F3 hF3 => ?_) t (Nat.and_self t) (va_up F t (nI 1000000)) 1000000 vup_eq (fun q => absurd q hz) PI_i (fun j hj => ?_)
      · rcases Nat.lt_or_eq_of_le hj with h1 | h1
        · rw [vup_ne (by omega)]; exact hG j h1
        · subst h1; exact vup_eq
      · refine a_iincN (lv' := [(4, .int (nI (t + 1))), (0, .ref 95), (1, .int (nI fo)), (2, .int (nI ms)), (3, .int (nI (P - 1)))]) (j := 0) dM_findDays_124 rfl (by decide) rfl ?_
        refine a_goto (tgt := 12) dM_findDays_127 (by decide) ?_
        refine a_locs (lv' := [(4, .int (nI (t + 1))), (0, .ref 95), (1, .int (nI fo)), (2, .int (nI ms)), (3, .int (nI (P - 1)))]) [0, 1, 2, 3, 4] rfl ?_
        exact ih (t + 1) (by omega) (va_up G t (gvR I ko nh nl fo ms t)) F3 (fun j hj => by
          rcases Nat.lt_or_eq_of_le (Nat.le_of_lt_succ hj) with h1 | h1
          · rw [vup_ne (by omega)]; exact hG j h1
          · subst h1; exact vup_eq) hF3
      · obtain ⟨X9, h1, h2⟩ := hF j hj
        exact ⟨X9, by rw [vup_ne (by omega)]; exact h1, h2⟩
theorem fd_self {I : mI} : (m_row (m_row I 111 (I 111)) 112 (I 112)) = I := by rw [m_row_self, m_row_self]
theorem b_M_findDays {S : Nat × (Nat → Int32)} {d n : Nat} {I : mI} {J : mJ} {R : mR} {ko nh nl : Nat} (hn : 122 ≤ n) (hR : m_fin R) (ho : I 95 23 = nI ko) (hk : ko < 7) (hh : I 95 24 = nI nh) (hnh : nh ≤ 6) (hl : I 95 25 = nI nl) (hnl : nl ≤ 10) (hW : WFk I ko) (hFf : WFfR I ko nl) {fo ms : Nat} (hfo9 : fo ≤ 99) (hms9 : ms ≤ 10) {P : Nat} (hPP : 2 ^ nl = P)  {Q : Option Value → mI → mJ → mR → Prop} (hQ : ∀ (G F : Nat → Int32) X, (∀ j, j < P → G j = gvR I ko nh nl fo ms j) → FW (gdR I ko nh nl fo ms) (P - 1) X → Q (some (.int (if X < 1000000 then nI X else -1))) (m_row (m_row I 111 G) 112 F) J R) : AW S (d + 3) YM_findDays n n Q 0 [(0, .ref 95), (1, .int (nI fo)), (2, .int (nI ms))] [] I J R n := by
  have hP0 : 0 < P := by rw [← hPP]; exact Nat.two_pow_pos nl
  have hP : P ≤ 1024 := by rw [← hPP]; exact Nat.pow_le_pow_right (n := 2) (by omega) hnl
  refine a_iconstN (a := 1) dM_findDays_0 (by decide) ?_
  refine a_aload_n 0 dM_findDays_1 rfl rfl ?_
  refine a_geti dM_findDays_2 fl12_262 rfl ly_95 (by omega) ?_
  rw [show I 95 25 = (nI nl) from hl]
  refine a_ishl dM_findDays_5 ?_
  rw [show ((nI 1) <<< ((nI nl) &&& 31)) = (nI P) from (shl_P hPP hnl)]
  refine a_iconstN (a := 1) dM_findDays_6 (by decide) ?_
  refine a_isubN dM_findDays_7 hP0 ?_
  refine a_istore_n (lv' := [(3, .int (nI (P - 1))), (0, .ref 95), (1, .int (nI fo)), (2, .int (nI ms))]) dM_findDays_8 rfl (by decide) rfl ?_
  refine a_iconstN (a := 0) dM_findDays_9 (by decide) ?_
  refine a_istore (lv' := [(4, .int (nI 0)), (3, .int (nI (P - 1))), (0, .ref 95), (1, .int (nI fo)), (2, .int (nI ms))]) dM_findDays_10 (by decide) rfl ?_
  refine a_mem fd_self.symm ?_
  refine a_locs (lv' := [(4, .int (nI 0)), (0, .ref 95), (1, .int (nI fo)), (2, .int (nI ms)), (3, .int (nI (P - 1)))]) [0, 2, 3, 4, 1] rfl ?_
  refine l_fd1 hn hR ho hk hh hnh hl hnl hW hFf hfo9 hms9 hP0 hP (fun G F hG hF => ?_) P 0 (by omega) (I 111) (I 112) (fun j hj => absurd hj (Nat.not_lt_zero _)) (fun j hj => absurd hj (Nat.not_lt_zero _))
  obtain ⟨X, hX, hXf⟩ := hF (P - 1) (by omega)
  have hX6 := hXf.1
  refine a_aload_n 1 dM_findDays_130 rfl rfl ?_
  refine a_geta (r := 112) dM_findDays_131 fl12_60 rfl ly_95 (by omega) (rf_95_42 hR) ?_
  refine a_iload_n 4 dM_findDays_134 rfl rfl ?_
  refine a_ialdN (a := (P - 1)) dM_findDays_135 ly_112 (by omega) (by omega) (by decide) ?_
  rw [show (m_row (m_row I 111 G) 112 F) 112 (P - 1) = F (P - 1) from rfl]
  rw [show (F (P - 1)) = (nI X) from hX]
  refine a_ldcw (v := 1000000) dM_findDays_136 cn12_349 ?_
  refine a_icmp_lt (tgt := 146) dM_findDays_139 (by decide) (fun c139 => ?_) (fun c139 => ?_)
  · refine a_aload_n 1 dM_findDays_146 rfl rfl ?_
    refine a_geta (r := 112) dM_findDays_147 fl12_60 rfl ly_95 (by omega) (rf_95_42 hR) ?_
    refine a_iload_n 4 dM_findDays_150 rfl rfl ?_
    refine a_ialdN (a := (P - 1)) dM_findDays_151 ly_112 (by omega) (by omega) (by decide) ?_
    rw [show (m_row (m_row I 111 G) 112 F) 112 (P - 1) = F (P - 1) from rfl]
    rw [show (F (P - 1)) = (nI X) from hX]
    exact a_iret dM_findDays_152 rfl (by have h9 := hQ G F X hG hXf; rw [if_pos (show X < 1000000 from (nI_ltI (b := 1000000) (by omega) (by decide)).mp c139)] at h9; exact h9)
  · refine a_iconst (v := -1) dM_findDays_142 (by decide) ?_
    refine a_goto (tgt := 152) dM_findDays_143 (by decide) ?_
    exact a_iret dM_findDays_152 rfl (by have h9 := hQ G F X hG hXf; rw [if_neg (show ¬ X < 1000000 from fun q => c139 ((nI_ltI (b := 1000000) (by omega) (by decide)).mpr q))] at h9; exact h9)
