theorem dg_nI {x : Int32} (h : ¬ f_in x (nI 48) (nI 57) = 0) : ∃ v, v < 10 ∧ x = nI (48 + v) := by
  unfold f_in at h
  by_cases h1 : x < nI 48
  · rw [if_pos h1] at h; exact absurd rfl h
  · rw [if_neg h1] at h
    by_cases h2 : nI 57 < x
    · rw [if_pos h2] at h; exact absurd rfl h
    · rcases nI_or x with h3 | ⟨w, h3, h4⟩
      · exact absurd (Int32.lt_trans h3 (show (0 : Int32) < nI 48 by decide)) h1
      · subst h4
        rw [nI_ltI h3 (by decide)] at h1
        rw [nI_ltI (by decide) h3] at h2
        exact ⟨w - 48, by omega, by congr 1; omega⟩
theorem nv_step {v w : Nat} : nI 10 * nI v + nI (48 + w) - nI 48 = nI (10 * v + w) := by
  have h1 : nI 10 * nI v = nI (10 * v) := (Int32.ofNat_mul 10 v).symm
  have h2 : nI (10 * v) + nI (48 + w) = nI (10 * v + (48 + w)) := (Int32.ofNat_add _ _).symm
  have h3 : nI ((10 * v + w) + 48) = nI (10 * v + w) + nI 48 := Int32.ofNat_add _ _
  rw [h1, h2, show 10 * v + (48 + w) = (10 * v + w) + 48 by omega, h3]
  exact Int32.add_sub_cancel _ _
theorem spW_all {q : Nat → Bool} : ∀ m p j, p ≤ j → j < spW q m p → q j = true := by
  intro m
  induction m with
  | zero => intro p j h1 h2; exact absurd h2 (by show ¬ j < p; omega)
  | succ m ih =>
    intro p j h1 h2
    unfold spW at h2
    by_cases hq : q p = true
    · rw [if_pos hq] at h2
      rcases Nat.lt_or_eq_of_le h1 with a | a
      · exact ih (p + 1) j a h2
      · subst a; exact hq
    · rw [if_neg hq] at h2; exact absurd h2 (by omega)
/-- the digits of a number -/
theorem tk_dg {T : Nat → Int32} {len p : Nat} (h : tkS T len p = 2) : ¬ len ≤ tkB T len p ∧ ¬ smB T (tkB T len p) = true ∧ dgB T (tkB T len p) = true ∧ tkE T len p - tkB T len p ≤ 2 := by
  unfold tkS at h
  by_cases h0 : len ≤ tkB T len p
  · rw [if_pos h0] at h; exact absurd h (by decide)
  · rw [if_neg h0] at h
    by_cases h1 : smB T (tkB T len p) = true
    · rw [if_pos h1] at h; exact absurd h (by decide)
    · rw [if_neg h1] at h
      by_cases h2 : dgB T (tkB T len p) = true
      · rw [if_pos h2] at h
        by_cases h3 : tkE T len p - tkB T len p ≤ 2
        · exact ⟨h0, h1, h2, h3⟩
        · rw [if_neg h3] at h; exact absurd h (by decide)
      · rw [if_neg h2] at h
        by_cases h3 : T (tkB T len p) = nI 59
        · rw [if_pos h3] at h; exact absurd h (by decide)
        · rw [if_neg h3] at h; exact absurd h (by decide)
theorem nvC_nI {T : Nat → Int32} : ∀ m p v, (∀ j, p ≤ j → j < p + m → dgB T j = true) → ∃ w, w < (v + 1) * 10 ^ m ∧ nvC T m p (nI v) = nI w := by
  intro m
  induction m with
  | zero => intro p v _; exact ⟨v, by omega, rfl⟩
  | succ m ih =>
    intro p v h
    obtain ⟨w, hw, e⟩ := dg_nI (of_decide_eq_true (h p (Nat.le_refl _) (by omega)))
    obtain ⟨u, hu, e2⟩ := ih (p + 1) (10 * v + w) (fun j a b => h j (by omega) (by omega))
    refine ⟨u, ?_, ?_⟩
    · have h1 : (10 * v + w + 1) * 10 ^ m ≤ (v + 1) * 10 ^ (m + 1) := by
        rw [Nat.pow_succ, show (v + 1) * (10 ^ m * 10) = ((v + 1) * 10) * 10 ^ m by rw [Nat.mul_comm (10 ^ m) 10, ← Nat.mul_assoc]]
        exact Nat.mul_le_mul_right _ (by omega)
      omega
    · show nvC T m (p + 1) (nI 10 * nI v + T p - nI 48) = nI u
      rw [e, nv_step]; exact e2
theorem tk_nv {T : Nat → Int32} {len p : Nat} (hp : p ≤ len) (h : tkS T len p = 2) : ∃ w, w < 100 ∧ nvC T (tkE T len p - tkB T len p) (tkB T len p) (nI 0) = nI w := by
  obtain ⟨h0, h1, h2, h3⟩ := tk_dg h
  have hE : tkE T len p = spW (dgB T) (len - (tkB T len p + 1)) (tkB T len p + 1) := by unfold tkE; rw [if_neg h0, if_neg h1, if_pos h2]
  obtain ⟨w, hw, e⟩ := nvC_nI (T := T) (tkE T len p - tkB T len p) (tkB T len p) 0 (fun j a b => by
    rcases Nat.lt_or_eq_of_le a with q | q
    · exact spW_all (len - (tkB T len p + 1)) (tkB T len p + 1) j q (by rw [← hE]; omega)
    · subst q; exact h2)
  refine ⟨w, ?_, e⟩
  have : 10 ^ (tkE T len p - tkB T len p) ≤ 10 ^ 2 := Nat.pow_le_pow_right (by omega) h3
  omega
