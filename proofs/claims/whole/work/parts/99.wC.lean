/-- a set by its bits -/
def bsO (p : Nat → Bool) : Nat → Nat
  | 0 => 0
  | n + 1 => bsO p n ||| (if p n = true then 2 ^ n else 0)
theorem bsO_t {p : Nat → Bool} : ∀ n i, (bsO p n).testBit i = (decide (i < n) && p i) := by
  intro n
  induction n with
  | zero => intro i; show (0 : Nat).testBit i = _; rw [Nat.zero_testBit, decide_eq_false (Nat.not_lt_zero i), Bool.false_and]
  | succ n ih =>
    intro i
    show (bsO p n ||| (if p n = true then 2 ^ n else 0)).testBit i = _
    rw [Nat.testBit_or, ih]
    by_cases e : i = n
    · subst e
      rw [decide_eq_false (Nat.lt_irrefl i), decide_eq_true (Nat.lt_succ_self i), Bool.false_and, Bool.false_or, Bool.true_and]
      by_cases c : p i = true
      · rw [if_pos c, Nat.testBit_two_pow_self, c]
      · rw [if_neg c, Nat.zero_testBit, Bool.eq_false_iff.mpr c]
    · have e2 : (if p n = true then 2 ^ n else 0).testBit i = false := by
        split
        · rw [Nat.testBit_two_pow]; exact decide_eq_false (fun q => e q.symm)
        · exact Nat.zero_testBit i
      rw [e2, Bool.or_false]
      congr 1
      exact decide_eq_decide.mpr ⟨fun q => by omega, fun q => by omega⟩
theorem and_sub {s t : Nat} (h : ∀ i, s.testBit i = true → t.testBit i = true) : s &&& t = s := Nat.eq_of_testBit_eq (fun i => by
  rw [Nat.testBit_and]
  cases e : s.testBit i with
  | false => rfl
  | true => rw [h i e]; rfl)
theorem sbt_n {s t i : Nat} (h : s &&& t = s) (hi : s.testBit i = true) : t.testBit i = true := by
  have e : (s &&& t).testBit i = s.testBit i := by rw [h]
  rw [Nat.testBit_and, hi, Bool.true_and] at e
  exact e
/-- sets below a good one are good -/
def moG (gd : Nat → Prop) : Prop := ∀ s t, s &&& t = s → gd t → gd s
/-- the letters from one on can go -/
def feB (gd : Nat → Prop) (D : Nat) : Nat → Nat → (Nat → Nat) → Prop
  | 0, _, _ => True
  | f + 1, l, b => ∃ k, k < D ∧ gd (b k ||| 2 ^ l) ∧ feB gd D f (l + 1) (upN b k (b k ||| 2 ^ l))
def asB (gd : Nat → Prop) (D l N : Nat) (b a : Nat → Nat) : Prop := (∀ j, l ≤ j → j < N → a j < D) ∧ ∀ k, k < D → gd (b k ||| bsO (fun j => decide (l ≤ j ∧ a j = k)) N)
theorem as_eq {l N k : Nat} {b a : Nat → Nat} (hl : l < N) : (upN b (a l) (b (a l) ||| 2 ^ l)) k ||| bsO (fun j => decide (l + 1 ≤ j ∧ a j = k)) N = b k ||| bsO (fun j => decide (l ≤ j ∧ a j = k)) N := by
  refine Nat.eq_of_testBit_eq (fun i => ?_)
  rw [Nat.testBit_or, Nat.testBit_or, bsO_t, bsO_t]
  unfold upN
  by_cases c : k = a l
  · subst c
    rw [if_pos rfl, Nat.testBit_or, Nat.testBit_two_pow]
    by_cases e : l = i
    · subst e
      simp [hl]
    · rw [decide_eq_false e, Bool.or_false]
      congr 2
      exact decide_eq_decide.mpr ⟨fun q => ⟨by omega, q.2⟩, fun q => ⟨by omega, q.2⟩⟩
  · rw [if_neg c]
    congr 2
    refine decide_eq_decide.mpr ⟨fun q => ⟨by omega, q.2⟩, fun q => ⟨?_, q.2⟩⟩
    by_cases e : l = i
    · subst e; exact absurd q.2.symm c
    · omega
theorem feB_as {gd : Nat → Prop} {D N : Nat} (hm : moG gd) : ∀ f l (b : Nat → Nat), l + f = N → (∀ k, k < D → gd (b k)) → (feB gd D f l b ↔ ∃ a, asB gd D l N b a) := by
  intro f
  induction f with
  | zero =>
    intro l b hl hb
    refine ⟨fun _ => ⟨fun _ => 0, fun j h1 h2 => by omega, fun k hk => ?_⟩, fun _ => trivial⟩
    have e : bsO (fun j => decide (l ≤ j ∧ (0 : Nat) = k)) N = 0 := Nat.eq_of_testBit_eq (fun i => by
      rw [bsO_t, Nat.zero_testBit]
      by_cases c : i < N
      · rw [decide_eq_true c, Bool.true_and]; exact decide_eq_false (fun q => by omega)
      · rw [decide_eq_false c, Bool.false_and])
    rw [e, Nat.or_zero]; exact hb k hk
  | succ f ih =>
    intro l b hl hb
    constructor
    · intro ⟨k, hk, hg, hf⟩
      have hb2 : ∀ j, j < D → gd (upN b k (b k ||| 2 ^ l) j) := fun j hj => by
        unfold upN
        split
        · exact hg
        · exact hb j hj
      obtain ⟨a, a1, a2⟩ := (ih (l + 1) _ (by omega) hb2).mp hf
      have ea : upN a l k l = k := if_pos rfl
      refine ⟨upN a l k, fun j h1 h2 => ?_, fun j hj => ?_⟩
      · unfold upN
        split
        · exact hk
        · exact a1 j (by omega) h2
      · have q := as_eq (l := l) (N := N) (k := j) (b := b) (a := upN a l k) (by omega)
        rw [ea] at q
        rw [← q]
        have e : bsO (fun i => decide (l + 1 ≤ i ∧ upN a l k i = j)) N = bsO (fun i => decide (l + 1 ≤ i ∧ a i = j)) N := by
          congr 1
          funext i
          by_cases c : i = l
          · subst c; rw [decide_eq_false (fun q => by omega), decide_eq_false (fun q => by omega)]
          · unfold upN; rw [if_neg c]
        rw [e]
        exact a2 j hj
    · intro ⟨a, a1, a2⟩
      have hk := a1 l (Nat.le_refl _) (by omega)
      have hg : gd (b (a l) ||| 2 ^ l) := by
        refine hm _ _ (and_sub (fun i hi => ?_)) (a2 (a l) hk)
        rw [Nat.testBit_or] at hi ⊢
        rw [bsO_t]
        rw [Nat.testBit_two_pow] at hi
        by_cases e : l = i
        · subst e
          rw [decide_eq_true (show l < N by omega), decide_eq_true (show l ≤ l ∧ a l = a l from ⟨Nat.le_refl _, rfl⟩)]; simp
        · rw [decide_eq_false e, Bool.or_false] at hi
          rw [hi, Bool.true_or]
      have hb2 : ∀ j, j < D → gd (upN b (a l) (b (a l) ||| 2 ^ l) j) := fun j hj => by
        unfold upN
        split
        · exact hg
        · exact hb j hj
      refine ⟨a l, hk, hg, (ih (l + 1) _ (by omega) hb2).mpr ⟨a, fun j h1 h2 => a1 j (by omega) h2, fun j hj => ?_⟩⟩
      rw [as_eq (by omega)]
      exact a2 j hj
theorem rch_as {gd : Nat → Prop} {b : Nat → Nat} {lf N : Nat} (hN : lf < 2 ^ N) : ∀ i t, rch gd b lf i t ↔ (t &&& lf = t ∧ ∃ a : Nat → Nat, (∀ j, lf.testBit j = true → t.testBit j = false → a j < i) ∧ ∀ k, k < i → gd (b k ||| bsO (fun j => lf.testBit j && !t.testBit j && decide (a j = k)) N)) := by
  have hlf : ∀ j, lf.testBit j = true → j < N := fun j hj => by
    rcases Nat.lt_or_ge j N with q | q
    · exact q
    · rw [Nat.testBit_lt_two_pow (Nat.lt_of_lt_of_le hN (Nat.pow_le_pow_right (by decide) q))] at hj
      exact absurd hj (by decide)
  intro i
  induction i with
  | zero =>
    intro t
    constructor
    · intro h
      have h : t = lf := h
      subst h
      exact ⟨Nat.and_self _, fun _ => 0, fun j h1 h2 => by rw [h1] at h2; exact absurd h2 (by decide), fun k hk => absurd hk (Nat.not_lt_zero _)⟩
    · intro ⟨h1, a, h2, _⟩
      show t = lf
      refine Nat.eq_of_testBit_eq (fun j => ?_)
      cases e : t.testBit j with
      | true => exact (sbt_n h1 e).symm
      | false =>
        cases e2 : lf.testBit j with
        | false => rfl
        | true => exact absurd (h2 j e2 e) (Nat.not_lt_zero _)
  | succ i ih =>
    intro u
    constructor
    · intro ⟨t, h1, s, h2, h3, h4⟩
      obtain ⟨g1, a, g2, g3⟩ := (ih t).mp h1
      subst h4
      have hs : ∀ j, s.testBit j = true → t.testBit j = true := fun j hj => sbt_n h2 hj
      have ht : ∀ j, t.testBit j = true → lf.testBit j = true := fun j hj => sbt_n g1 hj
      refine ⟨and_sub (fun j hj => ?_), fun j => if s.testBit j = true then i else a j, fun j q1 q2 => ?_, fun k hk => ?_⟩
      · rw [Nat.testBit_xor] at hj
        have a1 := hs j; have a2 := ht j
        revert hj a1 a2
        cases s.testBit j <;> cases t.testBit j <;> simp
      · show (if s.testBit j = true then i else a j) < i + 1
        rw [Nat.testBit_xor] at q2
        by_cases c : s.testBit j = true
        · rw [if_pos c]; omega
        · rw [if_neg c]
          rw [Bool.eq_false_iff.mpr c, Bool.xor_false] at q2
          have := g2 j q1 q2; omega
      · by_cases e : k = i
        · subst e
          have eS : bsO (fun j => lf.testBit j && !(t ^^^ s).testBit j && decide ((if s.testBit j = true then k else a j) = k)) N = s := Nat.eq_of_testBit_eq (fun j => by
            rw [bsO_t, Nat.testBit_xor]
            by_cases c : s.testBit j = true
            · have c1 := hs j c
              have c2 := ht j c1
              rw [c, c1, c2, decide_eq_true (hlf j c2), if_pos rfl, decide_eq_true rfl]; rfl
            · rw [if_neg c, Bool.eq_false_iff.mpr c, Bool.xor_false]
              cases q1 : lf.testBit j with
              | false => simp
              | true =>
                cases q2 : t.testBit j with
                | true => simp
                | false => have := g2 j q1 q2; rw [decide_eq_false (show ¬ a j = k by omega)]; simp)
          rw [eS]; exact h3
        · have eS : bsO (fun j => lf.testBit j && !(t ^^^ s).testBit j && decide ((if s.testBit j = true then i else a j) = k)) N = bsO (fun j => lf.testBit j && !t.testBit j && decide (a j = k)) N := by
            congr 1
            funext j
            rw [Nat.testBit_xor]
            by_cases c : s.testBit j = true
            · rw [if_pos c, decide_eq_false (show ¬ i = k from fun q => e q.symm), hs j c]; simp
            · rw [if_neg c, Bool.eq_false_iff.mpr c, Bool.xor_false]
          rw [eS]; exact g3 k (by omega)
    · intro ⟨h1, a, h2, h3⟩
      have hu : ∀ j, u.testBit j = true → lf.testBit j = true := fun j hj => sbt_n h1 hj
      generalize hs : bsO (fun j => lf.testBit j && !u.testBit j && decide (a j = i)) N = s
      have st : ∀ j, s.testBit j = (lf.testBit j && !u.testBit j && decide (a j = i)) := fun j => by
        rw [← hs, bsO_t]
        cases q : lf.testBit j with
        | false => simp
        | true => rw [decide_eq_true (hlf j q), Bool.true_and]
      refine ⟨u ||| s, (ih _).mpr ⟨and_sub (fun j hj => ?_), a, fun j q1 q2 => ?_, fun k hk => ?_⟩, s, and_sub (fun j hj => by rw [Nat.testBit_or, hj, Bool.or_true]), by rw [← hs]; exact h3 i (Nat.lt_succ_self i), ?_⟩
      · rw [Nat.testBit_or, st] at hj
        have := hu j
        revert hj this
        cases lf.testBit j <;> cases u.testBit j <;> simp
      · rw [Nat.testBit_or, st, q1] at q2
        cases e : u.testBit j with
        | true => rw [e] at q2; simp at q2
        | false =>
          have := h2 j q1 e
          rw [e] at q2
          have n : ¬ a j = i := fun q => by rw [decide_eq_true q] at q2; simp at q2
          omega
      · have eS : bsO (fun j => lf.testBit j && !(u ||| s).testBit j && decide (a j = k)) N = bsO (fun j => lf.testBit j && !u.testBit j && decide (a j = k)) N := by
          congr 1
          funext j
          rw [Nat.testBit_or, st]
          by_cases c : a j = k
          · rw [decide_eq_false (show ¬ a j = i by omega), Bool.and_false, Bool.or_false]
          · rw [decide_eq_false c, Bool.and_false, Bool.and_false]
        rw [eS]; exact h3 k (by omega)
      · refine Nat.eq_of_testBit_eq (fun j => ?_)
        rw [Nat.testBit_xor, Nat.testBit_or, st]
        cases lf.testBit j <;> cases u.testBit j <;> simp
theorem rch_fe {gd : Nat → Prop} {b : Nat → Nat} {lf N D l f : Nat} (hm : moG gd) (hlN : l + f = N) (hlf : ∀ j, lf.testBit j = (decide (l ≤ j) && decide (j < N))) (hb : ∀ k, k < D → gd (b k)) : rch gd b lf D 0 ↔ feB gd D f l b := by
  have hN : lf < 2 ^ N := Nat.lt_pow_two_of_testBit _ (fun j hj => by rw [hlf, decide_eq_false (show ¬ j < N by omega), Bool.and_false])
  rw [feB_as hm f l b hlN hb, rch_as hN]
  have e : ∀ (a : Nat → Nat) k, bsO (fun j => lf.testBit j && !(0 : Nat).testBit j && decide (a j = k)) N = bsO (fun j => decide (l ≤ j ∧ a j = k)) N := fun a k => Nat.eq_of_testBit_eq (fun i => by
    rw [bsO_t, bsO_t, hlf, Nat.zero_testBit]
    by_cases c : i < N
    · rw [decide_eq_true c, Bool.decide_and]; simp
    · rw [decide_eq_false c, Bool.false_and, Bool.false_and])
  constructor
  · intro ⟨_, a, h1, h2⟩
    refine ⟨a, fun j q1 q2 => h1 j (by rw [hlf, decide_eq_true q1, decide_eq_true q2]; rfl) (Nat.zero_testBit j), fun k hk => ?_⟩
    rw [← e]; exact h2 k hk
  · intro ⟨a, h1, h2⟩
    refine ⟨Nat.zero_and _, a, fun j q1 _ => ?_, fun k hk => ?_⟩
    · rw [hlf, Bool.and_eq_true] at q1
      exact h1 j (of_decide_eq_true q1.1) (of_decide_eq_true q1.2)
    · rw [e]; exact h2 k hk
