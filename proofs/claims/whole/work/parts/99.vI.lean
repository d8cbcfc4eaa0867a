theorem adD_k {I : mI} {o l sz : Nat} {sg : Int32} {s0 : Nat → Int32} : ∀ k, k ≤ 5 → (∀ a, a < k → adD I o l sz sg s0 k (5 * sz + a) = sg * dsO I o l (if a = 4 then -1 else nI a)) ∧ ∀ j, (j < 5 * sz ∨ 5 * sz + k ≤ j) → adD I o l sz sg s0 k j = s0 j := by
  intro k
  induction k with
  | zero => intro _; exact ⟨fun a ha => absurd ha (by omega), fun j _ => rfl⟩
  | succ k ih =>
    intro hk
    obtain ⟨h1, h2⟩ := ih (by omega)
    have e : adD I o l sz sg s0 (k + 1) = va_up (adD I o l sz sg s0 k) (5 * sz + k) (sg * dsO I o l (if k = 4 then -1 else nI k)) := by
      show adDS I o l sz sg k (adD I o l sz sg s0 k) = _
      unfold adDS
      by_cases c : k = 4
      · rw [if_pos c, if_pos c]
      · rw [if_neg c, if_neg c]
    rw [e]
    refine ⟨fun a ha => ?_, fun j hj => ?_⟩
    · by_cases q : a = k
      · subst q; exact va_up_self _ _ _
      · rw [va_up_ne _ _ (by omega)]; exact h1 a (by omega)
    · rw [va_up_ne _ _ (by omega)]; exact h2 j (by omega)
def GR (I : mI) (o hx : Nat) (wo sg : Int32) (q : gr4) (k : Nat) : Prop := (q.1 ≤ k) ∧ (∀ i, i < q.1 → hmN q.2.1 i < k ∧ q.2.1 i = nI (hmN q.2.1 i) ∧ I (o + 2) (hmN q.2.1 i) = nI hx ∧ ¬ nI (hmN q.2.1 i) = wo ∧ q.2.2.1 i = I (o + 3) (hmN q.2.1 i) ∧ ∀ a, a < 5 → q.2.2.2 (5 * i + a) = sg * dsO I o (hmN q.2.1 i) (if a = 4 then -1 else nI a)) ∧ (∀ l, l < k → I (o + 2) l = nI hx → ¬ nI l = wo → ∃ i, i < q.1 ∧ hmN q.2.1 i = l) ∧ (∀ i j, i < j → j < q.1 → hmN q.2.1 i < hmN q.2.1 j)
theorem GR.mk {I : mI} {o hx : Nat} {wo sg : Int32} {q : gr4} {k : Nat} (sz_9 : q.1 ≤ k) (el_9 : ∀ i, i < q.1 → hmN q.2.1 i < k ∧ q.2.1 i = nI (hmN q.2.1 i) ∧ I (o + 2) (hmN q.2.1 i) = nI hx ∧ ¬ nI (hmN q.2.1 i) = wo ∧ q.2.2.1 i = I (o + 3) (hmN q.2.1 i) ∧ ∀ a, a < 5 → q.2.2.2 (5 * i + a) = sg * dsO I o (hmN q.2.1 i) (if a = 4 then -1 else nI a)) (su_9 : ∀ l, l < k → I (o + 2) l = nI hx → ¬ nI l = wo → ∃ i, i < q.1 ∧ hmN q.2.1 i = l) (inc_9 : ∀ i j, i < j → j < q.1 → hmN q.2.1 i < hmN q.2.1 j) : GR I o hx wo sg q k := ⟨sz_9, el_9, su_9, inc_9⟩
theorem GR.sz {I : mI} {o hx : Nat} {wo sg : Int32} {q : gr4} {k : Nat} (h : GR I o hx wo sg q k) : q.1 ≤ k := h.1
theorem GR.el {I : mI} {o hx : Nat} {wo sg : Int32} {q : gr4} {k : Nat} (h : GR I o hx wo sg q k) : ∀ i, i < q.1 → hmN q.2.1 i < k ∧ q.2.1 i = nI (hmN q.2.1 i) ∧ I (o + 2) (hmN q.2.1 i) = nI hx ∧ ¬ nI (hmN q.2.1 i) = wo ∧ q.2.2.1 i = I (o + 3) (hmN q.2.1 i) ∧ ∀ a, a < 5 → q.2.2.2 (5 * i + a) = sg * dsO I o (hmN q.2.1 i) (if a = 4 then -1 else nI a) := h.2.1
theorem GR.su {I : mI} {o hx : Nat} {wo sg : Int32} {q : gr4} {k : Nat} (h : GR I o hx wo sg q k) : ∀ l, l < k → I (o + 2) l = nI hx → ¬ nI l = wo → ∃ i, i < q.1 ∧ hmN q.2.1 i = l := h.2.2.1
theorem GR.inc {I : mI} {o hx : Nat} {wo sg : Int32} {q : gr4} {k : Nat} (h : GR I o hx wo sg q k) : ∀ i j, i < j → j < q.1 → hmN q.2.1 i < hmN q.2.1 j := h.2.2.2
theorem gr_k {I : mI} {o h : Nat} {wo sg : Int32} {g k0 dg : Nat → Int32} : ∀ k, k ≤ 10 → GR I o h wo sg (grA I o h wo sg (0, g, k0, dg) k) k := by
  intro k
  induction k with
  | zero => intro _; exact GR.mk (Nat.le_refl _) (fun i hi => absurd hi (Nat.not_lt_zero _)) (fun l hl => absurd hl (by omega)) (fun i j h1 h2 => absurd h2 (Nat.not_lt_zero _))
  | succ k ih =>
    intro hk
    have H := ih (by omega)
    have e : grA I o h wo sg (0, g, k0, dg) (k + 1) = grAS I o h wo sg k (grA I o h wo sg (0, g, k0, dg) k) := rfl
    rw [e]
    generalize grA I o h wo sg (0, g, k0, dg) k = q at H
    unfold grAS
    by_cases c1 : I (o + 2) k = nI h
    · rw [if_pos c1]
      by_cases c2 : nI k = wo
      · rw [if_pos c2]
        refine GR.mk (Nat.le_succ_of_le H.sz) (fun i hi => ?_) (fun l hl h1 h2 => ?_) H.inc
        · obtain ⟨a, b⟩ := H.el i hi; exact ⟨Nat.lt_succ_of_lt a, b⟩
        · by_cases w : l = k
          · subst w; exact absurd c2 h2
          · exact H.su l (by omega) h1 h2
      · rw [if_neg c2]
        have hsz := H.sz
        obtain ⟨d1, d2⟩ := adD_k (I := I) (o := o) (l := k) (sz := q.1) (sg := sg) (s0 := q.2.2.2) 5 (Nat.le_refl _)
        have hnew : hmN (va_up q.2.1 q.1 (nI k)) q.1 = k := by unfold hmN; rw [va_up_self]; exact nI_clamp (by omega)
        have hold : ∀ i, i < q.1 → hmN (va_up q.2.1 q.1 (nI k)) i = hmN q.2.1 i := fun i hi => by unfold hmN; rw [va_up_ne _ _ (by omega)]
        refine GR.mk (show q.1 + 1 ≤ k + 1 by omega) (fun i hi => ?_) (fun l hl h1 h2 => ?_) (fun i j h1 h2 => ?_)
        · have hi : i < q.1 + 1 := hi
          show hmN (va_up q.2.1 q.1 (nI k)) i < k + 1 ∧ va_up q.2.1 q.1 (nI k) i = nI (hmN (va_up q.2.1 q.1 (nI k)) i) ∧ I (o + 2) (hmN (va_up q.2.1 q.1 (nI k)) i) = nI h ∧ ¬ nI (hmN (va_up q.2.1 q.1 (nI k)) i) = wo ∧ va_up q.2.2.1 q.1 (I (o + 3) k) i = I (o + 3) (hmN (va_up q.2.1 q.1 (nI k)) i) ∧ ∀ a, a < 5 → adD I o k q.1 sg q.2.2.2 5 (5 * i + a) = sg * dsO I o (hmN (va_up q.2.1 q.1 (nI k)) i) (if a = 4 then -1 else nI a)
          by_cases w : i = q.1
          · subst w
            rw [hnew, va_up_self, va_up_self]
            exact ⟨by omega, rfl, c1, c2, rfl, fun a ha => d1 a ha⟩
          · rw [hold i (by omega), va_up_ne _ _ w, va_up_ne _ _ w]
            obtain ⟨a1, a2, a3, a4, a5, a6⟩ := H.el i (by omega)
            exact ⟨by omega, a2, a3, a4, a5, fun a ha => by rw [d2 _ (Or.inl (by omega))]; exact a6 a ha⟩
        · by_cases w : l = k
          · subst w; exact ⟨q.1, Nat.lt_succ_self _, hnew⟩
          · obtain ⟨i, a, b⟩ := H.su l (by omega) h1 h2
            exact ⟨i, Nat.lt_succ_of_lt a, (hold i a).trans b⟩
        · have h2 : j < q.1 + 1 := h2
          show hmN (va_up q.2.1 q.1 (nI k)) i < hmN (va_up q.2.1 q.1 (nI k)) j
          by_cases w : j = q.1
          · subst w; rw [hnew, hold i h1]; exact (H.el i h1).1
          · rw [hold i (by omega), hold j (by omega)]; exact H.inc i j h1 (by omega)
    · rw [if_neg c1]
      refine GR.mk (Nat.le_succ_of_le H.sz) (fun i hi => ?_) (fun l hl h1 h2 => ?_) H.inc
      · obtain ⟨a, b⟩ := H.el i hi; exact ⟨Nat.lt_succ_of_lt a, b⟩
      · by_cases w : l = k
        · subst w; exact absurd h1 c1
        · exact H.su l (by omega) h1 h2
/-- a set of places and the set of their letters -/
def relT (q : gr4) (t' t : Nat) : Prop := t < 1024 ∧ t' < 2 ^ q.1 ∧ ∀ l, l < 10 → (t.testBit l = true ↔ ∃ i, i < q.1 ∧ t'.testBit i = true ∧ hmN q.2.1 i = l)
theorem hasT {t l : Nat} (hl : l < 32) : ¬ f_has (nI t) (nI l) = 0 ↔ t.testBit l = true := by
  rw [has_nI hl]; cases t.testBit l <;> simp
theorem relT_rm {I : mI} {o h k : Nat} {wo sg : Int32} {q : gr4} (H : GR I o h wo sg q k) (hk : k ≤ 10) {t' t i : Nat} (h1 : relT q t' t) (hi : i < q.1) (hb : ¬ f_has (nI t') (nI i) = 0) : relT q (rmN t' i) (rmN t (hmN q.2.1 i)) := by
  have hsz := H.sz
  have hp : 2 ^ q.1 ≤ 2 ^ 10 := Nat.pow_le_pow_right (by decide) (by omega)
  obtain ⟨a1, a2, a3⟩ := h1
  have hil := (H.el i hi).1
  refine ⟨rm_1024 (by omega) a1, rm_lt (by omega) a2, fun l hl => ?_⟩
  rw [rm_bt (by omega) (by omega)]
  constructor
  · intro e
    have e1 : t.testBit l = true := by
      cases c : t.testBit l
      · rw [c, Bool.false_and] at e; exact absurd e Bool.false_ne_true
      · rfl
    have e2 : ¬ l = hmN q.2.1 i := fun w => by rw [decide_eq_true w, Bool.not_true, Bool.and_false] at e; exact absurd e Bool.false_ne_true
    obtain ⟨j, b1, b2, b3⟩ := (a3 l hl).mp e1
    refine ⟨j, b1, ?_, b3⟩
    rw [rm_bt (by omega) (by omega), b2, decide_eq_false (fun w => e2 (by rw [← b3, w]))]; rfl
  · rintro ⟨j, b1, b2, b3⟩
    rw [rm_bt (by omega) (by omega)] at b2
    have c1 : t'.testBit j = true := by
      cases c : t'.testBit j
      · rw [c, Bool.false_and] at b2; exact absurd b2 Bool.false_ne_true
      · rfl
    have c2 : ¬ j = i := fun w => by rw [decide_eq_true w, Bool.not_true, Bool.and_false] at b2; exact absurd b2 Bool.false_ne_true
    have c3 : ¬ l = hmN q.2.1 i := fun w => by
      rw [← b3] at w
      rcases Nat.lt_or_ge j i with z | z
      · have := H.inc j i z hi; omega
      · have := H.inc i j (by omega) b1; omega
    rw [(a3 l hl).mpr ⟨j, b1, c1, b3⟩, decide_eq_false c3]; rfl
