/-- one place of a set's gains -/
theorem fgA_k {dg s : Nat → Int32} {i t : Nat} {an rs : Int32} : ∀ k, k ≤ 5 → (∀ a, a < k → fgA dg i t an rs s k (5 * t + a) = (if an = 0 then dg (5 * i + a) + rs else if dg (5 * i + a) + rs ≤ s (5 * t + a) then s (5 * t + a) else dg (5 * i + a) + rs)) ∧ (∀ j, (j < 5 * t ∨ 5 * t + k ≤ j) → fgA dg i t an rs s k j = s j) := by
  intro k
  induction k with
  | zero => intro _; exact ⟨fun a ha => absurd ha (by omega), fun j _ => rfl⟩
  | succ k ih =>
    intro hk
    obtain ⟨h1, h2⟩ := ih (by omega)
    have e : fgA dg i t an rs s (k + 1) = fgAS dg i t an rs k (fgA dg i t an rs s k) := rfl
    rw [e]
    unfold fgAS
    rw [h2 (5 * t + k) (Or.inr (Nat.le_refl _))]
    generalize fgA dg i t an rs s k = r at h1 h2
    by_cases c : an = 0
    · rw [if_pos c]
      refine ⟨fun a ha => ?_, fun j hj => ?_⟩
      · by_cases q : a = k
        · subst q; rw [va_up_self, if_pos c]
        · rw [va_up_ne _ _ (by omega)]; exact h1 a (by omega)
      · rw [va_up_ne _ _ (by omega)]; exact h2 j (by omega)
    · rw [if_neg c]
      by_cases c2 : dg (5 * i + k) + rs ≤ s (5 * t + k)
      · rw [if_pos c2]
        refine ⟨fun a ha => ?_, fun j hj => h2 j (by omega)⟩
        by_cases q : a = k
        · subst q; rw [if_neg c, if_pos c2]; exact h2 _ (Or.inr (Nat.le_refl _))
        · exact h1 a (by omega)
      · rw [if_neg c2]
        refine ⟨fun a ha => ?_, fun j hj => ?_⟩
        · by_cases q : a = k
          · subst q; rw [va_up_self, if_neg c, if_neg c2]
          · rw [va_up_ne _ _ (by omega)]; exact h1 a (by omega)
        · rw [va_up_ne _ _ (by omega)]; exact h2 j (by omega)
/-- the greatest of those of a set -/
def mxP (t n : Nat) (v : Nat → Int32) (M : Int32) : Prop := (∃ i, i < n ∧ ¬ f_has (nI t) (nI i) = 0 ∧ v i = M) ∧ ∀ i, i < n → ¬ f_has (nI t) (nI i) = 0 → v i ≤ M
theorem rm_xor {t l : Nat} (hl : l < 31) (ht : t < 2 ^ 31) : rmN t l = t &&& (t ^^^ (2 ^ l &&& t)) := by
  apply Nat.eq_of_testBit_eq
  intro i
  by_cases hi : i < 32
  · rw [rm_bt (by omega) hi, Nat.testBit_and, Nat.testBit_xor, Nat.testBit_and, Nat.testBit_two_pow]
    by_cases c : i = l
    · subst c; rw [decide_eq_true rfl]; cases t.testBit i <;> simp
    · rw [decide_eq_false c, decide_eq_false (fun q => c q.symm)]; cases t.testBit i <;> simp
  · have h1 : t.testBit i = false := Nat.testBit_lt_two_pow (Nat.lt_of_lt_of_le ht (Nat.pow_le_pow_right (by decide) (by omega)))
    have h2 : (rmN t l).testBit i = false := Nat.testBit_lt_two_pow (Nat.lt_of_lt_of_le (rm_lt (m := 31) (by omega) ht) (Nat.pow_le_pow_right (by decide) (by omega)))
    rw [h2, Nat.testBit_and, h1]; rfl
theorem has_nI {t l : Nat} (hl : l < 32) : f_has (nI t) (nI l) = 0 ↔ t.testBit l = false := by
  rw [hasz_bt _ hl, bt_nI hl]
theorem rm_add {t l : Nat} (hl : l < 31) (ht : t < 2 ^ 31) (h : ¬ f_has (nI t) (nI l) = 0) : 2 ^ l + rmN t l = t := by
  have hb : t.testBit l = true := by
    cases c : t.testBit l
    · exact absurd ((has_nI (by omega)).mpr c) h
    · rfl
  have e1 : 2 ^ l &&& t = 2 ^ l := by
    apply Nat.eq_of_testBit_eq
    intro i
    rw [Nat.testBit_and, Nat.testBit_two_pow]
    by_cases c : l = i
    · subst c; rw [hb]; simp
    · rw [decide_eq_false c]; rfl
  have e2 : rmN t l = t ^^^ 2 ^ l := by
    rw [rm_xor hl ht, e1, Nat.and_comm]
    exact xr_s e1
  rw [e2]; exact xr_a t (2 ^ l) e1
theorem rm_sm {t l : Nat} (hl : l < 31) (ht : t < 2 ^ 31) (h : ¬ f_has (nI t) (nI l) = 0) : rmN t l < t := by
  have := rm_add hl ht h
  have : 0 < 2 ^ l := Nat.pow_pos (by decide)
  omega
theorem has_ex {t n : Nat} (h0 : 0 < t) (ht : t < 2 ^ n) (hn : n ≤ 10) : ∃ i, i < n ∧ ¬ f_has (nI t) (nI i) = 0 := by
  obtain ⟨i, hi⟩ := Nat.exists_testBit_of_ne_zero (x := t) (by omega)
  have hin : i < n := by
    rcases Nat.lt_or_ge i n with q | q
    · exact q
    · rw [Nat.testBit_lt_two_pow (Nat.lt_of_lt_of_le ht (Nat.pow_le_pow_right (by decide) q))] at hi; exact absurd hi (by decide)
  exact ⟨i, hin, fun q => by rw [(has_nI (by omega)).mp q] at hi; exact absurd hi (by decide)⟩
theorem fgN_k {k0 dg s : Nat → Int32} {t sz : Nat} (hr : ∀ i, i < sz → ¬ f_has (nI t) (nI i) = 0 → rmN t i < t) (hk0 : ∀ i, i < sz → hmN k0 i < 5) : ∀ k, k ≤ sz → ((fgN k0 dg t (nI 0, s) k).1 = 0 ∧ (∀ i, i < k → f_has (nI t) (nI i) = 0) ∧ (fgN k0 dg t (nI 0, s) k).2 = s ∨ ¬ (fgN k0 dg t (nI 0, s) k).1 = 0 ∧ ∀ a, a < 5 → mxP t k (fun i => dg (5 * i + a) + s (5 * rmN t i + hmN k0 i)) ((fgN k0 dg t (nI 0, s) k).2 (5 * t + a))) ∧ ∀ j, (j < 5 * t ∨ 5 * t + 5 ≤ j) → (fgN k0 dg t (nI 0, s) k).2 j = s j := by
  intro k
  induction k with
  | zero => intro _; exact ⟨Or.inl ⟨rfl, fun i hi => absurd hi (by omega), rfl⟩, fun j _ => rfl⟩
  | succ k ih =>
    intro hk
    obtain ⟨h1, h2⟩ := ih (by omega)
    have e : fgN k0 dg t (nI 0, s) (k + 1) = fgNS k0 dg t k (fgN k0 dg t (nI 0, s) k) := rfl
    rw [e]
    unfold fgNS
    generalize fgN k0 dg t (nI 0, s) k = r at h1 h2
    by_cases c : f_has (nI t) (nI k) = 0
    · rw [if_pos c]
      refine ⟨?_, h2⟩
      rcases h1 with ⟨a1, a2, a3⟩ | ⟨a1, a2⟩
      · exact Or.inl ⟨a1, fun i hi => by
          by_cases q : i = k
          · subst q; exact c
          · exact a2 i (by omega), a3⟩
      · refine Or.inr ⟨a1, fun a ha => ?_⟩
        obtain ⟨⟨i, b1, b2, b3⟩, b4⟩ := a2 a ha
        exact ⟨⟨i, by omega, b2, b3⟩, fun i hi hb => by
          by_cases q : i = k
          · subst q; exact absurd c hb
          · exact b4 i (by omega) hb⟩
    · rw [if_neg c]
      have hrl := hr k (by omega) c
      have hkk := hk0 k (by omega)
      have er : r.2 (5 * rmN t k + hmN k0 k) = s (5 * rmN t k + hmN k0 k) := h2 _ (Or.inl (by omega))
      obtain ⟨g1, g2⟩ := fgA_k (dg := dg) (s := r.2) (i := k) (t := t) (an := r.1) (rs := r.2 (5 * rmN t k + hmN k0 k)) 5 (Nat.le_refl _)
      refine ⟨Or.inr ⟨show ¬ (nI 1 : Int32) = 0 by decide, fun a ha => ?_⟩, fun j hj => (g2 j hj).trans (h2 j hj)⟩
      show mxP t (k + 1) _ (fgA dg k t r.1 (r.2 (5 * rmN t k + hmN k0 k)) r.2 5 (5 * t + a))
      rw [g1 a ha, er]
      rcases h1 with ⟨a1, a2, a3⟩ | ⟨a1, a2⟩
      · rw [if_pos a1]
        exact ⟨⟨k, by omega, c, rfl⟩, fun i hi hb => by
          by_cases q : i = k
          · subst q; exact Int32.le_refl _
          · exact absurd (a2 i (by omega)) hb⟩
      · rw [if_neg a1]
        obtain ⟨⟨i, b1, b2, b3⟩, b4⟩ := a2 a ha
        by_cases c2 : dg (5 * k + a) + s (5 * rmN t k + hmN k0 k) ≤ r.2 (5 * t + a)
        · rw [if_pos c2]
          exact ⟨⟨i, by omega, b2, b3⟩, fun j hj hb => by
            by_cases q : j = k
            · subst q; exact c2
            · exact b4 j (by omega) hb⟩
        · rw [if_neg c2]
          exact ⟨⟨k, by omega, c, rfl⟩, fun j hj hb => by
            by_cases q : j = k
            · subst q; exact Int32.le_refl _
            · exact Int32.le_trans (b4 j (by omega) hb) (Int32.le_of_lt (Int32.not_le.mp c2))⟩
/-- all sets of a house's letters -/
theorem mgN_k {k0 dg s : Nat → Int32} {sz : Nat} (hs : sz ≤ 10) (hk0 : ∀ i, i < sz → hmN k0 i < 5) : ∀ n, n < 2 ^ sz → (∀ t, 0 < t → t ≤ n → ∀ a, a < 5 → mxP t sz (fun i => dg (5 * i + a) + mgN k0 dg sz s n (5 * rmN t i + hmN k0 i)) (mgN k0 dg sz s n (5 * t + a))) ∧ ∀ j, j < 5 → mgN k0 dg sz s n j = s j := by
  have hp : 2 ^ sz ≤ 2 ^ 10 := Nat.pow_le_pow_right (by decide) hs
  intro n
  induction n with
  | zero => intro _; exact ⟨fun t h1 h2 => absurd h1 (by omega), fun j _ => rfl⟩
  | succ n ih =>
    intro hn
    obtain ⟨h1, h2⟩ := ih (by omega)
    have e : mgN k0 dg sz s (n + 1) = (fgN k0 dg (n + 1) (nI 0, mgN k0 dg sz s n) sz).2 := rfl
    rw [e]
    obtain ⟨g1, g2⟩ := fgN_k (k0 := k0) (dg := dg) (s := mgN k0 dg sz s n) (t := n + 1) (sz := sz) (fun i hi hb => rm_sm (by omega) (by omega) hb) hk0 sz (Nat.le_refl _)
    generalize mgN k0 dg sz s n = r at h1 h2 g1 g2
    generalize fgN k0 dg (n + 1) (nI 0, r) sz = w at g1 g2
    refine ⟨fun t t0 tn a ha => ?_, fun j hj => (g2 j (Or.inl (by omega))).trans (h2 j hj)⟩
    have ho : ∀ i, i < sz → ¬ f_has (nI t) (nI i) = 0 → w.2 (5 * rmN t i + hmN k0 i) = r (5 * rmN t i + hmN k0 i) := fun i hi hb => by
      have q1 := rm_sm (t := t) (l := i) (by omega) (by omega) hb
      have q2 := hk0 i (by omega)
      exact g2 _ (Or.inl (by omega))
    have key : mxP t sz (fun i => dg (5 * i + a) + r (5 * rmN t i + hmN k0 i)) (w.2 (5 * t + a)) := by
      by_cases q : t = n + 1
      · subst q
        rcases g1 with ⟨_, b, _⟩ | ⟨_, b⟩
        · obtain ⟨i, hi, hb⟩ := has_ex (t := n + 1) (n := sz) (by omega) hn hs
          exact absurd (b i hi) hb
        · exact b a ha
      · rw [g2 (5 * t + a) (Or.inl (by omega))]
        exact h1 t t0 (by omega) a ha
    obtain ⟨⟨i, b1, b2, b3⟩, b4⟩ := key
    exact ⟨⟨i, b1, b2, by dsimp only; rw [ho i b1 b2]; exact b3⟩, fun i hi hb => by dsimp only; rw [ho i hi hb]; exact b4 i hi hb⟩
