theorem rch_p {gd : Nat → Prop} {lf : Nat} : ∀ i t n, rch gd (fun _ => 0) lf i t → prt gd n t → ∃ m, m ≤ i + n ∧ prt gd m lf := by
  intro i
  induction i with
  | zero => intro t n h p; have h : t = lf := h; subst h; exact ⟨n, by omega, p⟩
  | succ i ih =>
    intro u n ⟨t, h1, s, h2, h3, h4⟩ p
    have h3 : gd s := by rw [← Nat.zero_or s]; exact h3
    by_cases c : s = 0
    · subst c
      rw [Nat.xor_zero] at h4
      subst h4
      obtain ⟨m, a1, a2⟩ := ih _ n h1 p
      exact ⟨m, by omega, a2⟩
    · subst h4
      obtain ⟨m, a1, a2⟩ := ih t (n + 1) h1 ⟨s, c, h2, h3, p⟩
      exact ⟨m, by omega, a2⟩
theorem p_rch {gd : Nat → Prop} {lf : Nat} : ∀ n t i, rch gd (fun _ => 0) lf i t → prt gd n t → rch gd (fun _ => 0) lf (i + n) 0 := by
  intro n
  induction n with
  | zero => intro t i h p; have p : t = 0 := p; subst p; exact h
  | succ n ih =>
    intro t i h ⟨s, h1, h2, h3, h4⟩
    rw [show i + (n + 1) = i + 1 + n by omega]
    exact ih _ (i + 1) ⟨t, h, s, h2, by rw [Nat.zero_or]; exact h3, rfl⟩ h4
theorem rch_pad {gd : Nat → Prop} {lf i : Nat} (h0 : gd 0) (h : rch gd (fun _ => 0) lf i 0) : ∀ d, rch gd (fun _ => 0) lf (i + d) 0 := by
  intro d
  induction d with
  | zero => exact h
  | succ d ih => exact ⟨0, ih, 0, rfl, by rw [Nat.zero_or]; exact h0, rfl⟩
theorem fl_bt {nl j : Nat} : (2 ^ nl - 1).testBit j = (decide (0 ≤ j) && decide (j < nl)) := by rw [Nat.testBit_two_pow_sub_one, decide_eq_true (Nat.zero_le j), Bool.true_and]
theorem rt_bt {nl l j : Nat} (hl : l < nl) : (rtN nl l).testBit j = (decide (l + 1 ≤ j) && decide (j < nl)) := by
  unfold rtN
  rw [Nat.testBit_xor, Nat.testBit_two_pow_sub_one, Nat.testBit_two_pow_sub_one]
  by_cases c1 : j < l + 1
  · rw [decide_eq_true c1, decide_eq_true (show j < nl by omega), decide_eq_false (show ¬ l + 1 ≤ j by omega)]; rfl
  · rw [decide_eq_false c1, decide_eq_true (show l + 1 ≤ j by omega), Bool.xor_false, Bool.true_and]
theorem fe_prt {gd : Nat → Prop} {nl D : Nat} (hm : moG gd) (h0 : gd 0) : feB gd D nl 0 (fun _ => 0) ↔ ∃ m, m ≤ D ∧ prt gd m (2 ^ nl - 1) := by
  rw [← rch_fe (lf := 2 ^ nl - 1) (N := nl) hm (Nat.zero_add _) (fun j => fl_bt) (fun _ _ => h0)]
  constructor
  · intro h
    exact rch_p D 0 0 h rfl
  · intro ⟨m, h1, h2⟩
    have := rch_pad h0 (p_rch m _ 0 rfl h2) (D - (0 + m))
    rw [show 0 + m + (D - (0 + m)) = D by omega] at this
    exact this
theorem FW_u {gd : Nat → Prop} {t X Y : Nat} (h1 : FW gd t X) (h2 : FW gd t Y) : X = Y := by
  have go : ∀ X Y, FW gd t X → FW gd t Y → X ≤ Y := fun X Y h1 h2 => by
    rcases h2.2.1 with e | e
    · have := h1.1; omega
    · exact h1.2.2 _ e
  exact Nat.le_antisymm (go _ _ h1 h2) (go _ _ h2 h1)
theorem FW_ex {gd : Nat → Prop} {t : Nat} : ∃ X, FW gd t X := by
  by_cases c : ∃ m, m < 1000000 ∧ prt gd m t
  · obtain ⟨m, h1, h2⟩ := c
    obtain ⟨j, q1, q2, q3⟩ := lst_n (p := fun m => prt gd m t) m h2
    refine ⟨j, by omega, Or.inr q2, fun i hi => ?_⟩
    rcases Nat.lt_or_ge i j with q | q
    · exact absurd hi (q3 i q)
    · exact q
  · refine ⟨1000000, Nat.le_refl _, Or.inl rfl, fun m hm => ?_⟩
    rcases Nat.lt_or_ge m 1000000 with q | q
    · exact absurd ⟨m, q, hm⟩ c
    · exact q
theorem wsm_0 {w : Nat → Nat} : ∀ n, wsm w (fun i => (0 : Nat).testBit i) n = 0 := by
  intro n
  induction n with
  | zero => rfl
  | succ n ih => show wsm w _ n + (if (0 : Nat).testBit n = true then w n else 0) = 0; rw [ih, Nat.zero_testBit, if_neg (by decide)]
theorem gdA_0 {hm w : Nat → Nat} {nh nl fo ms : Nat} : gdA hm w nh nl fo ms 0 := ⟨fun h _ => by rw [ldW, wsm_0]; exact Nat.zero_le _, by rw [ctW, wsm_0]; exact Nat.zero_le _⟩
theorem gdA_1 {hm w : Nat → Nat} {nh nl fo ms l : Nat} (hl : l < nl) (h10 : nl ≤ 10) (hh : hm l < nh) (h1 : 1 ≤ ms) : gdA hm w nh nl fo ms (2 ^ l) ↔ w l ≤ fo := by
  have := gdA_s (w := w) (fo := fo) (ms := ms) hl h10 hh (Nat.zero_testBit l) gdA_0
  rw [Nat.zero_or, ldW, ctW, wsm_0, wsm_0, Nat.zero_add] at this
  rw [this]
  exact ⟨fun q => q.2, fun q => ⟨by omega, q⟩⟩
theorem fe_w {hm w : Nat → Nat} {nh nl fo ms D l : Nat} (hl : l < nl) (h10 : nl ≤ 10) (hh : hm l < nh) (h1 : 1 ≤ ms) (h : feB (gdA hm w nh nl fo ms) D nl 0 (fun _ => 0)) : w l ≤ fo := by
  rw [feB_as (N := nl) gdA_m nl 0 _ (Nat.zero_add _) (fun _ _ => gdA_0)] at h
  obtain ⟨a, a1, a2⟩ := h
  refine (gdA_1 hl h10 hh h1).mp (gdA_m _ _ (and_sub (fun i hi => ?_)) (a2 (a l) (a1 l (Nat.zero_le _) hl)))
  rw [Nat.testBit_two_pow] at hi
  have e : l = i := of_decide_eq_true hi
  subst e
  rw [Nat.testBit_or, bsO_t, decide_eq_true hl, decide_eq_true (show 0 ≤ l ∧ a l = a l from ⟨Nat.zero_le _, rfl⟩)]; simp
theorem fe_all {hm w : Nat → Nat} {nh nl fo ms : Nat} (h10 : nl ≤ 10) (hh : ∀ l, l < nl → hm l < nh) (h1 : 1 ≤ ms) (hw : ∀ l, l < nl → w l ≤ fo) : feB (gdA hm w nh nl fo ms) nl nl 0 (fun _ => 0) := by
  rw [feB_as (N := nl) gdA_m nl 0 _ (Nat.zero_add _) (fun _ _ => gdA_0)]
  refine ⟨fun j => j, fun j _ h => h, fun k hk => ?_⟩
  refine gdA_m _ _ (and_sub (fun i hi => ?_)) ((gdA_1 hk h10 (hh k hk) h1).mpr (hw k hk))
  rw [Nat.testBit_or, bsO_t, Nat.zero_testBit, Bool.false_or, Bool.and_eq_true] at hi
  have := of_decide_eq_true hi.2
  rw [Nat.testBit_two_pow]; exact decide_eq_true this.2.symm
/-- the fewest bags, both ways -/
theorem bag_X {hm w : Nat → Nat} {nh nl fo ms X : Nat} (h10 : nl ≤ 10) (h6 : nh ≤ 6) (hh : ∀ l, l < nl → hm l < nh) (h1 : 1 ≤ ms) (hX : FW (gdA hm w nh nl fo ms) (2 ^ nl - 1) X) : ((∃ l, l < nl ∧ fo < w l) → ¬ X < 1000000) ∧ (∀ j as, srF j ms fo hm w nl 0 0 (fun _ => 0) (fun _ => 0) = some as → (∀ i, i < j → srF i ms fo hm w nl 0 0 (fun _ => 0) (fun _ => 0) = none) → j < 1000000 → X = j ∧ grB (gdA hm w nh nl fo ms) j nl 0 (fun _ => 0) as) ∧ ((∀ j, j ≤ nl → srF j ms fo hm w nl 0 0 (fun _ => 0) (fun _ => 0) = none) → ¬ X < 1000000) := by
  have go : ∀ D, (feB (gdA hm w nh nl fo ms) D nl 0 (fun _ => 0) → ∃ as, srF D ms fo hm w nl 0 0 (fun _ => 0) (fun _ => 0) = some as ∧ grB (gdA hm w nh nl fo ms) D nl 0 (fun _ => 0) as) ∧ (¬ feB (gdA hm w nh nl fo ms) D nl 0 (fun _ => 0) → srF D ms fo hm w nl 0 0 (fun _ => 0) (fun _ => 0) = none) := fun D => sr_go h10 h6 hh nl 0 0 _ _ _ (Nat.zero_add _) (fun _ _ => gdA_0) (fun _ _ i _ => Nat.zero_testBit i) (fun _ _ _ => rfl) (fun k hk => ⟨by rw [ctW, wsm_0], fun h _ => by rw [ldW, wsm_0]⟩)
  have fw : X < 1000000 → feB (gdA hm w nh nl fo ms) X nl 0 (fun _ => 0) := fun q => by
    rcases hX.2.1 with e | e
    · omega
    · exact (fe_prt gdA_m gdA_0).mpr ⟨X, Nat.le_refl _, e⟩
  have hv : (∃ l, l < nl ∧ fo < w l) → ¬ X < 1000000 := fun ⟨l, a, b⟩ q => by
    have := fe_w a h10 (hh l a) h1 (fw q); omega
  refine ⟨hv, fun j as e1 e2 hj => ?_, fun hn q => ?_⟩
  · have f1 : feB (gdA hm w nh nl fo ms) j nl 0 (fun _ => 0) := Classical.byContradiction (fun q => by rw [(go j).2 q] at e1; exact absurd e1 (by simp))
    obtain ⟨as', a1, a2⟩ := (go j).1 f1
    have ea : as = as' := by rw [e1] at a1; exact Option.some.inj a1
    subst ea
    refine ⟨?_, a2⟩
    obtain ⟨m, m1, m2⟩ := (fe_prt gdA_m gdA_0).mp f1
    have x1 := hX.2.2 m m2
    rcases Nat.lt_or_ge X j with q | q
    · exfalso
      obtain ⟨as2, b1, _⟩ := (go X).1 (fw (by omega))
      rw [e2 X q] at b1
      exact absurd b1 (by simp)
    · omega
  · by_cases c : ∃ l, l < nl ∧ fo < w l
    · exact hv c q
    · obtain ⟨as, a1, _⟩ := (go nl).1 (fe_all h10 hh h1 (fun l hl => by
        rcases Nat.lt_or_ge fo (w l) with z | z
        · exact absurd ⟨l, hl, z⟩ c
        · exact z))
      rw [hn nl (Nat.le_refl _)] at a1
      exact absurd a1 (by simp)
theorem dy_gr {gd : Nat → Prop} {nl D : Nat} {as : List Nat} (hm : moG gd) (h0 : gd 0) (hg : grB gd D nl 0 (fun _ => 0) as) : ∀ n, n ≤ nl → ∀ b v, chB gd nl D n b v → grB gd D (nl - n) n b (as.drop n) ∧ (∀ k, k < D → gd (b k)) ∧ (0 < n → v = nI (as.getD (n - 1) 0)) := by
  intro n
  induction n with
  | zero => intro _ b v h; have h : b = fun _ => 0 := h; subst h; exact ⟨hg, fun _ _ => h0, fun q => absurd q (Nat.lt_irrefl _)⟩
  | succ n ih =>
    intro hn b v ⟨b0, v0, h1, h2⟩
    obtain ⟨i1, i2, _⟩ := ih (by omega) b0 v0 h1
    obtain ⟨f, hf⟩ : ∃ f, nl - n = f + 1 := ⟨nl - n - 1, by omega⟩
    rw [hf] at i1
    obtain ⟨k, as', e1, k1, k2, k3, k4⟩ := i1
    have od : ∀ j, j < D → (okD gd nl D n b0 j ↔ okF gd D f n b0 j) := fun j hj => by
      unfold okD okF
      constructor
      · intro ⟨a1, a2⟩
        refine ⟨a1, (rch_fe (N := nl) hm (by omega) (fun i => rt_bt (by omega)) (fun i hi => ?_)).mp a2⟩
        unfold upN; split
        · exact a1
        · exact i2 i hi
      · intro ⟨a1, a2⟩
        refine ⟨a1, (rch_fe (N := nl) hm (by omega) (fun i => rt_bt (by omega)) (fun i hi => ?_)).mpr a2⟩
        unfold upN; split
        · exact a1
        · exact i2 i hi
    rcases h2 with ⟨j, j1, j2, j3, j4, j5⟩ | ⟨j1, _⟩
    · have ej : j = k := by
        rcases Nat.lt_trichotomy j k with q | q | q
        · exact absurd ((od j j1).mp j2) (k3 j q)
        · exact q
        · exact absurd ((od k k1).mpr k2) (j3 k q)
      subst ej
      subst j4
      refine ⟨?_, fun i hi => ?_, fun _ => ?_⟩
      · have e2 : as.drop (n + 1) = as' := by rw [← List.drop_drop, e1]; rfl
        rw [e2, show nl - (n + 1) = f by omega]; exact k4
      · unfold upN; split
        · exact j2.1
        · exact i2 i hi
      · have e3 : as.getD n 0 = j := by
          rw [List.getD_eq_getElem?_getD]
          have := List.getElem?_drop (xs := as) (i := n) (j := 0)
          rw [e1, Nat.add_zero] at this
          rw [← this]; rfl
        rw [Nat.add_sub_cancel, e3]; exact j5
    · exact absurd ((od k k1).mpr k2) (j1 k k1)
theorem RO.hnh {I K : mI} {o ko nh nl nw l : Nat} (H : RO I K o ko nh nl nw) (hl : l < nl) : hmN (I (o + 2)) l < nh ∧ oR K ko (9 + l) = nI (hmN (I (o + 2)) l) := by
  have h6 := H.2.nh6
  obtain ⟨a, ha, e, h⟩ := H.2.ho l (by have := H.2.l10; omega)
  have e2 : hmN (I (o + 2)) l = a := by unfold hmN; rw [H.1.ho l hl, e]; exact nI_clamp (by omega)
  rw [e2]; exact ⟨h hl, e⟩
theorem RO.fw {I K : mI} {o ko nh nl nw l : Nat} (H : RO I K o ko nh nl nw) (hl : l < nl) : hmN (I (o + 4)) l = fwR K ko l := by
  unfold hmN fwR; rw [H.1.fo l hl]
theorem RO.ib {I K : mI} {o ko nh nl nw s h : Nat} (H : RO I K o ko nh nl nw) (hh : h < 6) : ∀ k, k ≤ nl → ibA (hdI (cdI K) ko) ko s h 0 k = ldW (hmN (I (o + 2))) (hmN (I (o + 4))) h s k := by
  have h10 := H.2.l10
  have h6 := H.2.nh6
  intro k
  induction k with
  | zero => intro _; rfl
  | succ k ih =>
    intro hk
    show ibAS (hdI (cdI K) ko) ko s h k (ibA (hdI (cdI K) ko) ko s h 0 k) = ldW (hmN (I (o + 2))) (hmN (I (o + 4))) h s k + (if s.testBit k = true then (if hmN (I (o + 2)) k = h then hmN (I (o + 4)) k else 0) else 0)
    rw [← ih (by omega)]
    unfold ibAS
    obtain ⟨p1, p2⟩ := H.hnh (l := k) (by omega)
    rw [hm_hd (by omega), p2, H.fw (l := k) (by omega), show fwR (hdI (cdI K) ko) ko k = fwR K ko k from rfl]
    have ei : nI (hmN (I (o + 2)) k) = nI h ↔ hmN (I (o + 2)) k = h := ⟨fun q => by
      have := congrArg Int32.toNatClampNeg q
      rw [nI_clamp (by omega), nI_clamp (by omega)] at this
      exact this, fun q => by rw [q]⟩
    by_cases c : s.testBit k = true
    · rw [if_neg (fun q => by rw [(has_nI (by omega)).mp q] at c; exact absurd c (by decide)), if_pos c]
      by_cases c2 : hmN (I (o + 2)) k = h
      · rw [if_pos (ei.mpr c2), if_pos c2]
      · rw [if_neg (fun q => c2 (ei.mp q)), if_neg c2]
    · rw [if_pos ((has_nI (by omega)).mpr (Bool.eq_false_iff.mpr c)), if_neg c]
theorem RO.gd {I K : mI} {o ko nh nl nw fo ms : Nat} (H : RO I K o ko nh nl nw) : gdR (hdI (cdI K) ko) ko nh nl fo ms = gdA (hmN (I (o + 2))) (hmN (I (o + 4))) nh nl fo ms := by
  have h6 := H.2.nh6
  funext s
  refine propext ⟨fun ⟨h1, h2⟩ => ⟨fun h hh => ?_, ?_⟩, fun ⟨h1, h2⟩ => ⟨fun h hh => ?_, ?_⟩⟩
  · rw [← H.ib (by omega) nl (Nat.le_refl _)]; exact h1 h hh
  · rw [ctW, wsm_1 10 (by decide)]; exact h2
  · rw [H.ib (by omega) nl (Nat.le_refl _)]; exact h1 h hh
  · rw [← wsm_1 10 (by decide)]; exact h2
/-- bags -/
theorem e_bagsF {I K : mI} {o ko nh nl nw fo ms : Nat} (H : RO I K o ko nh nl nw) (hms : 1 ≤ ms) : ∃ v : Int32, ((∃ l, l < nl ∧ fo < (hmN (I (o + 4)) l)) → v = -1) ∧ (∀ j as, j ≤ nl → srF j ms fo (hmN (I (o + 2))) (hmN (I (o + 4))) nl 0 0 (fun _ => 0) (fun _ => 0) = some as → (∀ i, i < j → srF i ms fo (hmN (I (o + 2))) (hmN (I (o + 4))) nl 0 0 (fun _ => 0) (fun _ => 0) = none) → as.length = nl → v = nI j) ∧ ((∀ j, j ≤ nl → srF j ms fo (hmN (I (o + 2))) (hmN (I (o + 4))) nl 0 0 (fun _ => 0) (fun _ => 0) = none) → v = -1) ∧ ∀ X, FW (gdR (hdI (cdI K) ko) ko nh nl fo ms) (2 ^ nl - 1) X → v = (if X < 1000000 then nI X else -1) := by
  have h10 := H.2.l10
  rw [H.gd]
  obtain ⟨X, hX⟩ := FW_ex (gd := gdA (hmN (I (o + 2))) (hmN (I (o + 4))) nh nl fo ms) (t := 2 ^ nl - 1)
  obtain ⟨g1, g2, g3⟩ := bag_X h10 H.2.nh6 (fun l hl => (H.hnh hl).1) hms hX
  refine ⟨if X < 1000000 then nI X else -1, fun q => if_neg (g1 q), fun j as hj e1 e2 _ => ?_, fun q => if_neg (g3 q), fun Y hY => by rw [FW_u hX hY]⟩
  obtain ⟨q, _⟩ := g2 j as e1 e2 (by omega)
  rw [q, if_pos (by omega)]
theorem e_bagsD {I K : mI} {o ko nh nl nw fo ms l : Nat} (H : RO I K o ko nh nl nw) (hms : 1 ≤ ms) (hl : l < nl) : ∃ v : Int32, ((∃ l, l < nl ∧ fo < (hmN (I (o + 4)) l)) → v = -1) ∧ (∀ j as, j ≤ nl → srF j ms fo (hmN (I (o + 2))) (hmN (I (o + 4))) nl 0 0 (fun _ => 0) (fun _ => 0) = some as → (∀ i, i < j → srF i ms fo (hmN (I (o + 2))) (hmN (I (o + 4))) nl 0 0 (fun _ => 0) (fun _ => 0) = none) → as.length = nl → v = nI (as.getD l 0)) ∧ ((∀ j, j ≤ nl → srF j ms fo (hmN (I (o + 2))) (hmN (I (o + 4))) nl 0 0 (fun _ => 0) (fun _ => 0) = none) → v = -1) ∧ (∀ X, FW (gdR (hdI (cdI K) ko) ko nh nl fo ms) (2 ^ nl - 1) X → 1000000 ≤ X → v = -1) ∧ (∀ X, FW (gdR (hdI (cdI K) ko) ko nh nl fo ms) (2 ^ nl - 1) X → X < 1000000 → ∀ v2, DY (gdR (hdI (cdI K) ko) ko nh nl fo ms) nl X l v2 → v2 = v) := by
  have h10 := H.2.l10
  rw [H.gd]
  obtain ⟨X, hX⟩ := FW_ex (gd := gdA (hmN (I (o + 2))) (hmN (I (o + 4))) nh nl fo ms) (t := 2 ^ nl - 1)
  obtain ⟨g1, g2, g3⟩ := bag_X h10 H.2.nh6 (fun l hl => (H.hnh hl).1) hms hX
  by_cases c : ∃ j as, j ≤ nl ∧ srF j ms fo (hmN (I (o + 2))) (hmN (I (o + 4))) nl 0 0 (fun _ => 0) (fun _ => 0) = some as ∧ ∀ i, i < j → srF i ms fo (hmN (I (o + 2))) (hmN (I (o + 4))) nl 0 0 (fun _ => 0) (fun _ => 0) = none
  · obtain ⟨j, as, c1, c2, c3⟩ := c
    obtain ⟨q1, q2⟩ := g2 j as c2 c3 (by omega)
    subst q1
    refine ⟨nI (as.getD l 0), fun q => absurd (show X < 1000000 by omega) (g1 q), fun j2 as2 hj e1 e2 _ => ?_, fun q => absurd (show X < 1000000 by omega) (g3 q), fun Y hY h => ?_, fun Y hY h v2 hv => ?_⟩
    · obtain ⟨p1, _⟩ := g2 j2 as2 e1 e2 (by omega)
      subst p1
      rw [c2] at e1
      rw [Option.some.inj e1]
    · have := FW_u hX hY; omega
    · have := FW_u hX hY
      subst this
      obtain ⟨b, hb⟩ := hv
      exact (dy_gr gdA_m gdA_0 q2 (l + 1) (by omega) b v2 hb).2.2 (Nat.succ_pos _)
  · have hnone : ∀ n, n ≤ nl + 1 → ∀ i, i < n → srF i ms fo (hmN (I (o + 2))) (hmN (I (o + 4))) nl 0 0 (fun _ => 0) (fun _ => 0) = none := by
      intro n
      induction n with
      | zero => intro _ i hi; exact absurd hi (Nat.not_lt_zero _)
      | succ n ih =>
        intro hn i hi
        have p := ih (by omega)
        by_cases e : i = n
        · subst e
          cases r : srF i ms fo (hmN (I (o + 2))) (hmN (I (o + 4))) nl 0 0 (fun _ => 0) (fun _ => 0) with
          | none => rfl
          | some as => exact absurd ⟨i, as, by omega, r, p⟩ c
        · exact p i (by omega)
    have hx := g3 (fun j hj => hnone (nl + 1) (Nat.le_refl _) j (by omega))
    refine ⟨-1, fun _ => rfl, fun j as hj e1 e2 _ => absurd ⟨j, as, hj, e1, e2⟩ c, fun _ => rfl, fun _ _ _ => rfl, fun Y hY h v2 _ => ?_⟩
    have := FW_u hX hY
    omega
