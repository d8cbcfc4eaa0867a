theorem rs_add {X : mI} {ko nl : Nat} {lo r : Int32} {a : Nat} : ∀ b, rsN X ko nl lo r (a + b) = rsN X ko nl lo (rsN X ko nl lo r a) b := by
  intro b
  induction b with
  | zero => rfl
  | succ b ih => show roR X ko nl (rsN X ko nl lo r (a + b)) lo = roR X ko nl (rsN X ko nl lo (rsN X ko nl lo r a) b) lo; rw [ih]
/-- a ring from step ten on -/
theorem ring_ex {X : mI} {ko nl : Nat} (h : WFx X ko nl) : ∃ P, 0 < P ∧ P ≤ 240 ∧ rsN X ko nl (nI 0) (rs0 X ko nl) (10 + P) = rsN X ko nl (nI 0) (rs0 X ko nl) 10 ∧ ∀ j, 0 < j → j < P → ¬ rsN X ko nl (nI 0) (rs0 X ko nl) (10 + j) = rsN X ko nl (nI 0) (rs0 X ko nl) 10 := by
  obtain ⟨M, h1, h2, h3⟩ := v_per (vRk_V0 h) h.1
  obtain ⟨P, q1, q2, q3⟩ := lst_ex (P := fun P => 0 < P ∧ rsN X ko nl (nI 0) (rs0 X ko nl) (10 + P) = rsN X ko nl (nI 0) (rs0 X ko nl) 10) M ⟨h1, (rs_eq h).mpr (fun l hl => h3 l hl 0)⟩
  exact ⟨P, q2.1, by omega, q2.2, fun j hj hP e => q3 j hP ⟨hj, e⟩⟩
theorem ring_k {X : mI} {ko nl P : Nat} {r : Int32} (hP : rsN X ko nl (nI 0) r (10 + P) = rsN X ko nl (nI 0) r 10) : ∀ k q, rsN X ko nl (nI 0) r (10 + q + P * k) = rsN X ko nl (nI 0) r (10 + q) := by
  intro k
  induction k with
  | zero => intro q; rfl
  | succ k ih =>
    intro q
    rw [Nat.mul_succ, show 10 + q + (P * k + P) = (10 + P) + (q + P * k) by omega, rs_add, hP, ← rs_add, show 10 + (q + P * k) = 10 + q + P * k by omega, ih]
theorem ring_20 {X : mI} {ko nl P : Nat} {r : Int32} (h0 : 0 < P) (hP : rsN X ko nl (nI 0) r (10 + P) = rsN X ko nl (nI 0) r 10) (hn : ∀ j, 0 < j → j < P → ¬ rsN X ko nl (nI 0) r (10 + j) = rsN X ko nl (nI 0) r 10) : rsN X ko nl (nI 0) r (20 + P) = rsN X ko nl (nI 0) r 20 ∧ ∀ j, 0 < j → j < P → ¬ rsN X ko nl (nI 0) r (20 + j) = rsN X ko nl (nI 0) r 20 := by
  have h10 : 10 ≤ P * 10 := Nat.le_mul_of_pos_left 10 h0
  refine ⟨?_, fun j h1 h2 e => hn j h1 h2 ?_⟩
  · have := ring_k hP 1 10; rw [Nat.mul_one] at this; exact this
  · have e1 := ring_k hP 10 j
    have e2 := ring_k hP 10 0
    rw [show 10 + j + P * 10 = (20 + j) + (P * 10 - 10) by omega, rs_add, e, ← rs_add, show 20 + (P * 10 - 10) = 10 + 0 + P * 10 by omega, e2] at e1
    exact e1.symm
/-- sets built letter by letter -/
def stSet (C : Nat → Prop) [∀ k, Decidable (C k)] : Nat → Int32
  | 0 => nI 0
  | k + 1 => if C k then stSet C k else stSet C k ||| (nI 1 <<< (nI k &&& 31))
theorem stSet_bt {C : Nat → Prop} [∀ k, Decidable (C k)] {i : Nat} (hi : i < 32) : ∀ m, m ≤ 31 → (bt (stSet C m) i = true ↔ i < m ∧ ¬ C i) := by
  intro m
  induction m with
  | zero => intro _; exact ⟨fun h => by rw [show stSet C 0 = 0 from rfl, b_0] at h; exact absurd h (by decide), fun h => absurd h.1 (Nat.not_lt_zero _)⟩
  | succ m ih =>
    intro hm
    have h := ih (by omega)
    show bt (if C m then stSet C m else stSet C m ||| (nI 1 <<< (nI m &&& 31))) i = true ↔ _
    by_cases c : C m
    · rw [if_pos c, h]
      constructor
      · intro q; exact ⟨by omega, q.2⟩
      · intro q
        by_cases e : i = m
        · rw [e] at q; exact absurd c q.2
        · exact ⟨by omega, q.2⟩
    · rw [if_neg c, b_or, show bt (nI 1 <<< (nI m &&& 31)) i = decide (i = m) from bt_sh (by omega) hi, Bool.or_eq_true, h, decide_eq_true_iff]
      constructor
      · rintro (q | q)
        · exact ⟨by omega, q.2⟩
        · rw [q]; exact ⟨by omega, c⟩
      · intro q
        by_cases e : i = m
        · exact Or.inr e
        · exact Or.inl ⟨by omega, q.2⟩
theorem bt_iff {x y : Int32} (h : ∀ i, i < 32 → (bt x i = true ↔ bt y i = true)) : x = y := b_ext (fun i hi => Bool.eq_iff_iff.mpr (h i hi))
theorem fb_st {c : Int32} : ∀ k, fbC c (nI 0) k = stSet (fun k => rkO c (nI k) = 0) k := by
  intro k
  induction k with
  | zero => rfl
  | succ k ih =>
    show fbCS c k (fbC c (nI 0) k) = if rkO c (nI k) = 0 then stSet (fun k => rkO c (nI k) = 0) k else stSet (fun k => rkO c (nI k) = 0) k ||| (nI 1 <<< (nI k &&& 31))
    rw [← ih]
    unfold fbCS rkO
    rw [n2k]
theorem rk_z {c : Int32} {l : Nat} (hl : l < 10) : rkO c (nI l) = 0 ↔ ∀ i, i < 2 → bt c (2 * l + i) = false := by
  constructor
  · intro h i hi
    have := rk_bt (r := c) (i := i) hl (by omega)
    rw [h, b_0, decide_eq_true hi, Bool.true_and] at this
    exact this.symm
  · intro h
    refine b_ext (fun i hi => ?_)
    rw [rk_bt hl hi, b_0]
    by_cases c2 : i < 2
    · rw [h i c2, Bool.and_false]
    · rw [decide_eq_false c2, Bool.false_and]
theorem rk_e {a b : Int32} {l : Nat} (hl : l < 10) : rkO a (nI l) = rkO b (nI l) ↔ ∀ i, i < 2 → bt a (2 * l + i) = bt b (2 * l + i) := by
  constructor
  · intro h i hi
    have h1 := rk_bt (r := a) (i := i) hl (by omega)
    have h2 := rk_bt (r := b) (i := i) hl (by omega)
    rw [decide_eq_true hi, Bool.true_and] at h1 h2
    rw [← h1, ← h2, h]
  · intro h
    refine b_ext (fun i hi => ?_)
    rw [rk_bt hl hi, rk_bt hl hi]
    by_cases c2 : i < 2
    · rw [h i c2]
    · rw [decide_eq_false c2, Bool.false_and, Bool.false_and]
theorem bxor_f {a b : Bool} : (a ^^ b) = false ↔ a = b := by cases a <;> cases b <;> decide
theorem fr_z {I : mI} {o nl l : Nat} {f0 : Int32} (hl : l < 10) : ∀ k, rkO (frN I o nl f0 (nI 0) k) (nI l) = 0 ↔ ∀ i, i < k → rkO (rsC I o nl f0 (i + 1)) (nI l) = rkO f0 (nI l) := by
  intro k
  induction k with
  | zero => exact ⟨fun _ i hi => absurd hi (Nat.not_lt_zero _), fun _ => (rk_z hl).mpr (fun i _ => b_0 _)⟩
  | succ k ih =>
    have e : rkO (frN I o nl f0 (nI 0) (k + 1)) (nI l) = 0 ↔ (rkO (frN I o nl f0 (nI 0) k) (nI l) = 0 ∧ rkO (rsC I o nl f0 (k + 1)) (nI l) = rkO f0 (nI l)) := by
      rw [rk_z hl, rk_z hl, rk_e hl]
      have q : ∀ j, bt (frN I o nl f0 (nI 0) (k + 1)) j = (bt (frN I o nl f0 (nI 0) k) j || (bt (rsC I o nl f0 (k + 1)) j ^^ bt f0 j)) := fun j => by
        show bt (frN I o nl f0 (nI 0) k ||| (brR I o nl (rsC I o nl f0 k) ^^^ f0)) j = _
        rw [b_or, b_xor]; rfl
      constructor
      · intro h
        refine ⟨fun i hi => ?_, fun i hi => ?_⟩
        · have := h i hi; rw [q, Bool.or_eq_false_iff] at this; exact this.1
        · have := h i hi; rw [q, Bool.or_eq_false_iff] at this; exact bxor_f.mp this.2
      · intro h i hi
        rw [q, Bool.or_eq_false_iff]; exact ⟨h.1 i hi, bxor_f.mpr (h.2 i hi)⟩
    rw [e, ih]
    constructor
    · intro h i hi
      by_cases c : i = k
      · rw [c]; exact h.2
      · exact h.1 i (by omega)
    · intro h; exact ⟨fun i hi => h i (by omega), h k (by omega)⟩
theorem peA_bt {f r s : Int32} {i : Nat} (hi : i < 32) : ∀ m, m ≤ 31 → (bt (peA f r s m) i = true ↔ bt s i = true ∨ (i < m ∧ ¬ rkO r (nI i) = rkO f (nI i))) := by
  intro m
  induction m with
  | zero => intro _; exact ⟨fun h => Or.inl h, fun h => by rcases h with h | h; exact h; exact absurd h.1 (Nat.not_lt_zero _)⟩
  | succ m ih =>
    intro hm
    have h := ih (by omega)
    show bt (peAS f r m (peA f r s m)) i = true ↔ _
    unfold peAS
    by_cases c : rkO r (nI m) = rkO f (nI m)
    · rw [if_pos c, b_or, show bt (nI 0) i = false from b_0 i, Bool.or_false, h]
      constructor
      · rintro (q | q)
        · exact Or.inl q
        · exact Or.inr ⟨by omega, q.2⟩
      · rintro (q | q)
        · exact Or.inl q
        · by_cases e : i = m
          · rw [e] at q; exact absurd c q.2
          · exact Or.inr ⟨by omega, q.2⟩
    · rw [if_neg c, b_or, show bt (nI 1 <<< (nI m &&& 31)) i = decide (i = m) from bt_sh (by omega) hi, Bool.or_eq_true, h, decide_eq_true_iff]
      constructor
      · rintro ((q | q) | q)
        · exact Or.inl q
        · exact Or.inr ⟨by omega, q.2⟩
        · rw [q]; exact Or.inr ⟨by omega, c⟩
      · rintro (q | q)
        · exact Or.inl (Or.inl q)
        · by_cases e : i = m
          · exact Or.inr e
          · exact Or.inl (Or.inr ⟨by omega, q.2⟩)
theorem peN_bt {X : mI} {ko nl i : Nat} {f : Int32} (hnl : nl ≤ 10) (hi : i < 32) : ∀ k, bt (peN X ko nl f (nI 0) k) i = true ↔ i < nl ∧ ∃ j, j < k ∧ ¬ rkO (ptN X ko nl f (j + 1)) (nI i) = rkO f (nI i) := by
  intro k
  induction k with
  | zero => exact ⟨fun h => by rw [show peN X ko nl f (nI 0) 0 = 0 from rfl, b_0] at h; exact absurd h (by decide), fun ⟨_, j, h, _⟩ => absurd h (Nat.not_lt_zero _)⟩
  | succ k ih =>
    show bt (peA f (ptN X ko nl f (k + 1)) (peN X ko nl f (nI 0) k) nl) i = true ↔ _
    rw [peA_bt hi nl (by omega), ih]
    constructor
    · rintro (⟨h, j, h1, h2⟩ | ⟨h, h1⟩)
      · exact ⟨h, j, by omega, h2⟩
      · exact ⟨h, k, by omega, h1⟩
    · rintro ⟨h, j, h1, h2⟩
      by_cases e : j = k
      · rw [e] at h2; exact Or.inr ⟨h, h2⟩
      · exact Or.inl ⟨h, j, by omega, h2⟩
/-- settled 1 and 2: one ring, found at step ten and at step twenty -/
theorem e_ring {I K : mI} {o ko nh nl nw : Nat} (H : RO I K o ko nh nl nw) : ∃ P, 0 < P ∧ P ≤ 240 ∧ rsC I o nl (rsC I o nl (af0 I o nl) 10) P = rsC I o nl (af0 I o nl) 10 ∧ (∀ j, 0 < j → j < P → ¬ rsC I o nl (rsC I o nl (af0 I o nl) 10) j = rsC I o nl (af0 I o nl) 10) ∧ ptN (hdI (cdI K) ko) ko nl (rsN (hdI (cdI K) ko) ko nl (nI 0) (rs0 (hdI (cdI K) ko) ko nl) 20) P = rsN (hdI (cdI K) ko) ko nl (nI 0) (rs0 (hdI (cdI K) ko) ko nl) 20 ∧ (∀ j, 0 < j → j < P → ¬ ptN (hdI (cdI K) ko) ko nl (rsN (hdI (cdI K) ko) ko nl (nI 0) (rs0 (hdI (cdI K) ko) ko nl) 20) j = rsN (hdI (cdI K) ko) ko nl (nI 0) (rs0 (hdI (cdI K) ko) ko nl) 20) ∧ (∀ l, l < 32 → (bt (fbC (frT I o nl (rsC I o nl (af0 I o nl) 10) P) (nI 0) nl) l = true ↔ l < nl ∧ ∃ j, ¬ vRk (hdI (cdI K) ko) ko nl 0 (10 + j) l = vRk (hdI (cdI K) ko) ko nl 0 10 l)) ∧ fbC (frT I o nl (rsC I o nl (af0 I o nl) 10) P) (nI 0) nl = peN (hdI (cdI K) ko) ko nl (rsN (hdI (cdI K) ko) ko nl (nI 0) (rs0 (hdI (cdI K) ko) ko nl) 20) (nI 0) (P - 1) := by
  have h10 := H.2.l10
  obtain ⟨P, h0, h2, h3, h4⟩ := ring_ex H.WFx
  obtain ⟨q3, q4⟩ := ring_20 h0 h3 h4
  have e : ∀ j, rsC I o nl (rsC I o nl (af0 I o nl) 10) j = rsN (hdI (cdI K) ko) ko nl (nI 0) (rs0 (hdI (cdI K) ko) ko nl) (10 + j) := fun j => by rw [H.rs, H.rsE, ← rs_add]
  have e10 : rsC I o nl (af0 I o nl) 10 = rsN (hdI (cdI K) ko) ko nl (nI 0) (rs0 (hdI (cdI K) ko) ko nl) 10 := H.rs
  have per := ring_k h3
  have dP : ∀ a b l, (rkO (rsN (hdI (cdI K) ko) ko nl (nI 0) (rs0 (hdI (cdI K) ko) ko nl) a) (nI l) = rkO (rsN (hdI (cdI K) ko) ko nl (nI 0) (rs0 (hdI (cdI K) ko) ko nl) b) (nI l)) ↔ vRk (hdI (cdI K) ko) ko nl 0 a l = vRk (hdI (cdI K) ko) ko nl 0 b l := fun a b l => ⟨fun h => by show uN32 _ = uN32 _; rw [h], fun h => by rw [rk_n, rk_n]; exact congrArg nI h⟩
  have hb : ∀ l, l < 32 → (bt (fbC (frT I o nl (rsC I o nl (af0 I o nl) 10) P) (nI 0) nl) l = true ↔ l < nl ∧ ∃ j, ¬ vRk (hdI (cdI K) ko) ko nl 0 (10 + j) l = vRk (hdI (cdI K) ko) ko nl 0 10 l) := by
    intro l hl
    rw [fb_st, stSet_bt hl nl (by omega)]
    refine and_congr_right (fun hln => ?_)
    have ef : frT I o nl (rsC I o nl (af0 I o nl) 10) P = frN I o nl (rsC I o nl (af0 I o nl) 10) (nI 0) P := by
      obtain ⟨m, rfl⟩ : ∃ m, P = m + 1 := ⟨P - 1, by omega⟩
      rfl
    rw [ef, fr_z (by omega)]
    constructor
    · intro h
      apply Classical.byContradiction
      intro q
      refine h (fun i hi => ?_)
      rw [e, e10, dP]
      exact Classical.byContradiction (fun x => q ⟨i + 1, x⟩)
    · rintro ⟨j, hj⟩ h
      apply hj
      by_cases c : j % P = 0
      · have := per (j / P) 0
        rw [← dP, show 10 + j = 10 + 0 + P * (j / P) by have := Nat.div_add_mod j P; omega, this]
      · have h1 := h (j % P - 1) (by have := Nat.mod_lt j h0; omega)
        rw [e, e10, show 10 + (j % P - 1 + 1) = 10 + j % P by omega] at h1
        have := per (j / P) (j % P)
        rw [← dP, show 10 + j = 10 + j % P + P * (j / P) by have := Nat.div_add_mod j P; omega, this]
        exact h1
  refine ⟨P, h0, h2, ?_, ?_, ?_, ?_, hb, bt_iff (fun l hl => ?_)⟩
  · rw [e, e10]; exact h3
  · intro j h1 h5; rw [e, e10]; exact h4 j h1 h5
  · show rsN _ _ _ _ _ _ = _; rw [← rs_add]; exact q3
  · intro j h1 h5; show ¬ rsN _ _ _ _ _ _ = _; rw [← rs_add]; exact q4 j h1 h5
  · rw [hb l hl, peN_bt h10 hl]
    refine and_congr_right (fun hln => ?_)
    have e20 : ∀ j, ptN (hdI (cdI K) ko) ko nl (rsN (hdI (cdI K) ko) ko nl (nI 0) (rs0 (hdI (cdI K) ko) ko nl) 20) j = rsN (hdI (cdI K) ko) ko nl (nI 0) (rs0 (hdI (cdI K) ko) ko nl) (20 + j) := fun j => (rs_add j).symm
    constructor
    · rintro ⟨j, hj⟩
      apply Classical.byContradiction
      intro q
      have all : ∀ t, vRk (hdI (cdI K) ko) ko nl 0 (20 + t) l = vRk (hdI (cdI K) ko) ko nl 0 20 l := by
        intro t
        have p := per (t / P) (10 + t % P)
        rw [show 20 + t = 10 + (10 + t % P) + P * (t / P) by have := Nat.div_add_mod t P; omega]
        show dgN _ _ = _
        rw [p]
        by_cases c : t % P = 0
        · rw [c]
        · apply (dP _ _ _).mp
          apply Classical.byContradiction
          intro x
          refine q ⟨t % P - 1, by have := Nat.mod_lt t h0; omega, ?_⟩
          rw [e20, show 20 + (t % P - 1 + 1) = 10 + (10 + t % P) by omega]; exact x
      have hk : 10 ≤ P * 10 := Nat.le_mul_of_pos_left 10 h0
      have to20 : ∀ j, vRk (hdI (cdI K) ko) ko nl 0 (10 + j) l = vRk (hdI (cdI K) ko) ko nl 0 20 l := fun j => by
        have p := per 10 j
        rw [← all (j + (P * 10 - 10)), show 20 + (j + (P * 10 - 10)) = 10 + j + P * 10 by omega]
        show dgN _ _ = dgN _ _
        rw [p]
      exact hj ((to20 j).trans (to20 0).symm)
    · rintro ⟨j, h1, h5⟩
      rw [e20] at h5
      apply Classical.byContradiction
      intro q
      have all : ∀ t, vRk (hdI (cdI K) ko) ko nl 0 (10 + t) l = vRk (hdI (cdI K) ko) ko nl 0 10 l := fun t => Classical.byContradiction (fun x => q ⟨t, x⟩)
      refine h5 ((dP _ _ _).mpr ?_)
      rw [show 20 + (j + 1) = 10 + (10 + (j + 1)) by omega, all]
      exact (all 10).symm
