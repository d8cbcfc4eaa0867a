/-- dear -/
theorem e_dear {I K : mI} {o ko nh nl nw l : Nat} (H : RO I K o ko nh nl nw) (hl : l < nl) (h68 : ∀ j, j < 5 → I 68 j = 0) : (moX I o nl (hmN (I (o + 2)) l) (-1) (sgU (nI 0)) (w5 I)) - (moX I o nl (hmN (I (o + 2)) l) (nI l) (sgU (nI 0)) (moR I o nl (hmN (I (o + 2)) l) (-1) (sgU (nI 0)) (w5 I))) = baR (hdI (cdI K) ko) ko nl (hmN ((hdI (cdI K) ko) 106) l) ((hdI (cdI K) ko) 110) - boR (hdI (cdI K) ko) ko nl (hmN ((hdI (cdI K) ko) 106) l) (rmN (ltH (hdI (cdI K) ko) (hmN ((hdI (cdI K) ko) 106) l) nl) l) 0 (baB (hdI (cdI K) ko) ko nl (hmN ((hdI (cdI K) ko) 106) l) ((hdI (cdI K) ko) 110)) := by
  have h10 := H.2.l10
  have h6 := H.2.nh6
  obtain ⟨a, ha, ea, qa⟩ := H.2.ho l (by omega)
  have e1 : hmN (I (o + 2)) l = a := by unfold hmN; rw [H.1.ho l hl, ea]; exact nI_clamp (by omega)
  have e2 : hmN ((hdI (cdI K) ko) 106) l = a := by unfold hmN; rw [hm_hd (by omega), ea]; exact nI_clamp (by omega)
  rw [e1, e2]
  obtain ⟨m1, m2⟩ := H.mo (u := nI 0) (h := a) (w := w5 I) (B0 := (hdI (cdI K) ko) 110) (by omega) h68
  have hb := H.lt_bt (h := a)
  have htl : ltN ((hdI (cdI K) ko) 106) (nI a) nl < 2 ^ 10 := Nat.lt_pow_two_of_testBit _ (fun i hi => by
    cases c : (ltN ((hdI (cdI K) ko) 106) (nI a) nl).testBit i
    · rfl
    · exact absurd ((hb i).mp c).1 (by omega))
  rw [m1, (mo_eq (u := nI 0) (wo := nI l) (h := a) (A := rmN (ltH (hdI (cdI K) ko) a nl) l) (B0 := baB (hdI (cdI K) ko) ko nl a ((hdI (cdI K) ko) 110)) H.OH (H.1.mo a (by omega)) (fun j => by
    by_cases hj : j < 32
    · rw [rm_bt (by omega) hj, Bool.and_eq_true, hb j]
      constructor
      · rintro ⟨⟨c1, c2, _⟩, c4⟩
        refine ⟨c1, c2, fun w => ?_⟩
        have w := (nI_eq (show j < 2 ^ 31 by omega) (show l < 2 ^ 31 by omega)).mp w
        rw [decide_eq_true w] at c4; exact absurd c4 (by decide)
      · rintro ⟨c1, c2, c3⟩
        exact ⟨⟨c1, c2, nI_m1 (by omega)⟩, by rw [decide_eq_false (fun w => c3 (by rw [w]))]; rfl⟩
    · constructor
      · intro w
        have : rmN (ltH (hdI (cdI K) ko) a nl) l < 2 ^ j := Nat.lt_of_lt_of_le (rm_lt (m := 10) (by omega) htl) (Nat.pow_le_pow_right (by decide) (by omega))
        rw [Nat.testBit_lt_two_pow this] at w; exact absurd w (by decide)
      · intro w; omega) m2).1]
  rfl
/-- touched -/
theorem e_touched {I K : mI} {o ko nh nl nw : Nat} (H : RO I K o ko nh nl nw) {w : r5} {B : Nat → Int32} (hw : ∀ j, j < 5 → w.2.2.2.2 j = 0) : ∀ k, k ≤ 6 → (tcN I o nl (0, w) k).1 = (toN (hdI (cdI K) ko) ko nl (0, B) k).1 ∧ ∀ j, j < 5 → (tcN I o nl (0, w) k).2.2.2.2.2 j = 0 := by
  intro k
  induction k with
  | zero => intro _; exact ⟨rfl, hw⟩
  | succ k ih =>
    intro hk
    obtain ⟨e, q⟩ := ih (by omega)
    have f1 : tcN I o nl (0, w) (k + 1) = tcNS I o nl k (tcN I o nl (0, w) k) := rfl
    have f2 : toN (hdI (cdI K) ko) ko nl (0, B) (k + 1) = toNS (hdI (cdI K) ko) ko nl k (toN (hdI (cdI K) ko) ko nl (0, B) k) := rfl
    rw [f1, f2]
    generalize tcN I o nl (0, w) k = r at e q
    generalize toN (hdI (cdI K) ko) ko nl (0, B) k = t at e
    obtain ⟨a1, a2⟩ := H.mo (u := nI 0) (h := k) (w := r.2) (B0 := t.2) (by omega) q
    obtain ⟨b1, b2⟩ := H.mo (u := nI 1) (h := k) (w := moR I o nl k (-1) (sgU (nI 0)) r.2) (B0 := baB (hdI (cdI K) ko) ko nl k t.2) (by omega) a2
    unfold tcNS toNS
    have a1' : moX I o nl k (-1) (sgU (nI 0)) r.2 = baR (hdI (cdI K) ko) ko nl k t.2 := a1
    have b1' : moX I o nl k (-1) (sgU (nI 1)) (moR I o nl k (-1) (sgU (nI 0)) r.2) = boR (hdI (cdI K) ko) ko nl k (ltN ((hdI (cdI K) ko) 106) (nI k) nl) 1 (baB (hdI (cdI K) ko) ko nl k t.2) := b1
    rw [a1', b1']
    by_cases c : baR (hdI (cdI K) ko) ko nl k t.2 = boR (hdI (cdI K) ko) ko nl k (ltN ((hdI (cdI K) ko) 106) (nI k) nl) 1 (baB (hdI (cdI K) ko) ko nl k t.2)
    · rw [if_pos c, if_pos c]; exact ⟨e, b2⟩
    · rw [if_neg c, if_neg c]; exact ⟨by show r.1 + 1 = t.1 + 1; rw [e], b2⟩
/-- ranked -/
theorem e_rkA {I K : mI} {o ko nh nl nw : Nat} (H : RO I K o ko nh nl nw) {w : r5} {B f g : Nat → Int32} (hw : ∀ j, j < 5 → w.2.2.2.2 j = 0) : ∀ k, k ≤ 6 → (∀ h, h < k → (raA I o nl (f, w) k).1 h = (rkA (hdI (cdI K) ko) ko nl (B, g) k).2 h) ∧ ∀ j, j < 5 → (raA I o nl (f, w) k).2.2.2.2.2 j = 0 := by
  intro k
  induction k with
  | zero => intro _; exact ⟨fun h hh => absurd hh (by omega), hw⟩
  | succ k ih =>
    intro hk
    obtain ⟨e, q⟩ := ih (by omega)
    have f1 : raA I o nl (f, w) (k + 1) = raAS I o nl k (raA I o nl (f, w) k) := rfl
    have f2 : rkA (hdI (cdI K) ko) ko nl (B, g) (k + 1) = rkAS (hdI (cdI K) ko) ko nl k (rkA (hdI (cdI K) ko) ko nl (B, g) k) := rfl
    rw [f1, f2]
    generalize raA I o nl (f, w) k = r at e q
    generalize rkA (hdI (cdI K) ko) ko nl (B, g) k = t at e
    obtain ⟨a1, a2⟩ := H.mo (u := nI 0) (h := k) (w := r.2) (B0 := t.1) (by omega) q
    refine ⟨fun h hh => ?_, a2⟩
    show va_up r.1 k (moX I o nl k (-1) (sgU (nI 0)) r.2) h = va_up t.2 k (baR (hdI (cdI K) ko) ko nl k t.1) h
    by_cases c : h = k
    · subst c; rw [va_up_self, va_up_self]; exact a1
    · rw [va_up_ne _ _ c, va_up_ne _ _ c]; exact e h (by omega)
theorem rk_cg {b b' : Nat → Int32} {nh t : Nat} (hb : ∀ h, h < nh → b h = b' h) (ht : t < nh) : ∀ k, k ≤ nh → rkC b t 0 k = rkN b' t 0 k := by
  intro k
  induction k with
  | zero => intro _; rfl
  | succ k ih =>
    intro hk
    show rkCS b t k (rkC b t 0 k) = rkNS b' t k (rkN b' t 0 k)
    unfold rkCS rkNS
    rw [ih (by omega), hb t ht, hb k (by omega)]; rfl
theorem e_rkV {b b' : Nat → Int32} {nh : Nat} {x v : Int32} (hb : ∀ h, h < nh → b h = b' h) : rkVC b nh x v ↔ rkV b' nh x v := by
  have e : ∀ k, k < nh → rkC b k 0 nh = rkN b' k 0 nh := fun k hk => rk_cg hb hk nh (Nat.le_refl _)
  unfold rkVC rkV
  constructor
  · rintro (⟨k, h1, h2, h3, h4⟩ | ⟨h1, h2⟩)
    · exact Or.inl ⟨k, h1, by rw [← e k h1]; exact h2, fun j hj => by rw [← e j (by omega)]; exact h3 j hj, h4⟩
    · exact Or.inr ⟨fun k hk => by rw [← e k hk]; exact h1 k hk, h2⟩
  · rintro (⟨k, h1, h2, h3, h4⟩ | ⟨h1, h2⟩)
    · exact Or.inl ⟨k, h1, by rw [e k h1]; exact h2, fun j hj => by rw [e j (by omega)]; exact h3 j hj, h4⟩
    · exact Or.inr ⟨fun k hk => by rw [e k hk]; exact h1 k hk, h2⟩
/-- couples -/
theorem smZ_2 {f : Nat → Nat → Nat} : ∀ n, smZ (fun a => smZ (fun k => f a (a + 1 + k)) (n - (a + 1))) n = smZ (fun b => smZ (fun a => f a b) b) n := by
  intro n
  induction n with
  | zero => rfl
  | succ n ih =>
    have add : ∀ (g h : Nat → Nat) m, smZ (fun a => g a + h a) m = smZ g m + smZ h m := by
      intro g h m
      induction m with
      | zero => rfl
      | succ m im => show smZ (fun a => g a + h a) m + (g m + h m) = smZ g m + g m + (smZ h m + h m); rw [im]; omega
    show smZ (fun a => smZ (fun k => f a (a + 1 + k)) (n + 1 - (a + 1))) n + smZ (fun k => f n (n + 1 + k)) (n + 1 - (n + 1)) = smZ (fun b => smZ (fun a => f a b) b) n + smZ (fun a => f a n) n
    rw [Nat.sub_self, ← ih, show smZ (fun k => f n (n + 1 + k)) 0 = 0 from rfl, Nat.add_zero, ← add]
    refine smZ_cg n (fun a ha => ?_)
    show smZ (fun k => f a (a + 1 + k)) (n + 1 - (a + 1)) = smZ (fun k => f a (a + 1 + k)) (n - (a + 1)) + f a n
    rw [show n + 1 - (a + 1) = (n - (a + 1)) + 1 by omega]
    show smZ (fun k => f a (a + 1 + k)) (n - (a + 1)) + f a (a + 1 + (n - (a + 1))) = _
    rw [show a + 1 + (n - (a + 1)) = n by omega]
def cpF (K : mI) (ko a b : Nat) : Nat := if oR K ko (9 + a) = oR K ko (9 + b) then (if oR K ko (59 + (4 * kdN K ko a + kdN K ko b)) = -1 then 0 else 1) else 0
theorem RO.rcA {I K : mI} {o ko nh nl nw t s0 : Nat} (H : RO I K o ko nh nl nw) (ht : t < nl) : ∀ k, t + 1 + k ≤ nl → rcA I o t s0 k = s0 + smZ (fun j => cpF K ko t (t + 1 + j)) k := by
  have h10 := H.2.l10
  intro k
  induction k with
  | zero => intro _; rfl
  | succ k ih =>
    intro hk
    show rcAS I o t k (_root_.Jvm.Pilot.CSortedOfficeLaw_law_r7817_abba98.rcA I o t s0 k) = s0 + (smZ (fun j => cpF K ko t (t + 1 + j)) k + cpF K ko t (t + 1 + k))
    rw [ih (by omega)]
    unfold rcAS cpF
    have hk1 : hmN (I (o + 3)) t = kdN K ko t := by unfold hmN kdN; rw [H.kd ht]
    have hk2 : hmN (I (o + 3)) (t + 1 + k) = kdN K ko (t + 1 + k) := by unfold hmN kdN; rw [H.kd (by omega)]
    have w1 := (H.WFk t (by omega)).2
    have w2 := (H.WFk (t + 1 + k) (by omega)).2
    rw [H.1.ho t ht, H.1.ho (t + 1 + k) (by omega), hk1, hk2, H.1.ti _ (by omega)]
    by_cases c : oR K ko (9 + t) = oR K ko (9 + (t + 1 + k))
    · rw [if_pos c, if_pos c]
      by_cases c2 : oR K ko (59 + (4 * kdN K ko t + kdN K ko (t + 1 + k))) = -1
      · rw [if_pos c2, if_pos c2]; rfl
      · rw [if_neg c2, if_neg c2]; omega
    · rw [if_neg c, if_neg c]; rfl
theorem RO.rcB {I K : mI} {o ko nh nl nw : Nat} (H : RO I K o ko nh nl nw) : ∀ k, k ≤ nl → rcB I o nl 0 k = smZ (fun a => smZ (fun j => cpF K ko a (a + 1 + j)) (nl - (a + 1))) k := by
  intro k
  induction k with
  | zero => intro _; rfl
  | succ k ih =>
    intro hk
    show _root_.Jvm.Pilot.CSortedOfficeLaw_law_r7817_abba98.rcA I o k (_root_.Jvm.Pilot.CSortedOfficeLaw_law_r7817_abba98.rcB I o nl 0 k) (nl - (k + 1)) = smZ (fun a => smZ (fun j => cpF K ko a (a + 1 + j)) (nl - (a + 1))) k + smZ (fun j => cpF K ko k (k + 1 + j)) (nl - (k + 1))
    rw [ih (by omega), H.rcA (by omega) _ (by omega)]
theorem cou_A {K : mI} {ko t s0 : Nat} (ht : t < 10) : ∀ k, k ≤ t → couA (hdI (cdI K) ko) ko t s0 k = s0 + smZ (fun a => cpF K ko a t) k := by
  intro k
  induction k with
  | zero => intro _; rfl
  | succ k ih =>
    intro hk
    show couAS (hdI (cdI K) ko) ko t k (couA (hdI (cdI K) ko) ko t s0 k) = s0 + (smZ (fun a => cpF K ko a t) k + cpF K ko k t)
    rw [ih (by omega)]
    unfold couAS cpF
    rw [hm_hd (by omega), hm_hd ht]
    show (if oR K ko (9 + k) = oR K ko (9 + t) then (if oR K ko ((59 + 4 * kdN K ko k) + kdN K ko t) = -1 then _ else _) else _) = _
    rw [show (59 + 4 * kdN K ko k) + kdN K ko t = 59 + (4 * kdN K ko k + kdN K ko t) by omega]
    by_cases c : oR K ko (9 + k) = oR K ko (9 + t)
    · rw [if_pos c, if_pos c]
      by_cases c2 : oR K ko (59 + (4 * kdN K ko k + kdN K ko t)) = -1
      · rw [if_pos c2, if_pos c2]; rfl
      · rw [if_neg c2, if_neg c2]; omega
    · rw [if_neg c, if_neg c]; rfl
theorem cou_C {K : mI} {ko : Nat} : ∀ k, k ≤ 10 → couC (hdI (cdI K) ko) ko 0 k = smZ (fun b => smZ (fun a => cpF K ko a b) b) k := by
  intro k
  induction k with
  | zero => intro _; rfl
  | succ k ih =>
    intro hk
    show couA (hdI (cdI K) ko) ko k (couC (hdI (cdI K) ko) ko 0 k) k = _ + _
    rw [ih (by omega), cou_A (by omega) k (Nat.le_refl _)]
theorem e_couples {I K : mI} {o ko nh nl nw : Nat} (H : RO I K o ko nh nl nw) : rcB I o nl 0 nl = couC (hdI (cdI K) ko) ko 0 nl := by
  rw [H.rcB nl (Nat.le_refl _), smZ_2, cou_C nl H.2.l10]
