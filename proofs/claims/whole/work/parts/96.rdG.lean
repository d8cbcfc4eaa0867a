theorem noF_n0 {F : Nat → Int32} {f pl : Int32} (hf : ¬ f = 0) : ¬ noF F f pl 3 = 0 := by
  unfold noF
  split
  · intro q; exact hf q
  · rename_i h; exact h
theorem noF_id {F : Nat → Int32} {f pl : Int32} (h : ¬ F 3 = 0) : noF F f pl = F := by unfold noF; rw [if_neg h]
theorem n2 : ¬ (nI 2 : Int32) = 0 := by decide
theorem n3 : ¬ (nI 3 : Int32) = 0 := by decide
/-- a number that can be -/
def nbP (l : Nat) (N : Nat → Int32) (k : Nat) : Prop := ¬ (l = 4 ∧ k = 1 ∧ N 1 = N 0) ∧ ¬ N k < m_least.getD (3 * l + k) 0 ∧ ¬ m_most.getD (3 * l + k) 0 < N k
theorem nfS_0 {l : Nat} {N P : Nat → Int32} {k : Nat} {F : Nat → Int32} (h : nfS l N P k F 3 = 0) : nfS l N P k F = F ∧ nbP l N k := by
  unfold nfS at h ⊢
  by_cases h1 : l = 4 ∧ k = 1 ∧ N 1 = N 0
  · rw [if_pos h1] at h; exact absurd h (noF_n0 n2)
  · rw [if_neg h1] at h ⊢
    by_cases h2 : N k < m_least.getD (3 * l + k) 0
    · rw [if_pos h2] at h; exact absurd h (noF_n0 n2)
    · rw [if_neg h2] at h ⊢
      by_cases h3 : m_most.getD (3 * l + k) 0 < N k
      · rw [if_pos h3] at h; exact absurd h (noF_n0 n2)
      · rw [if_neg h3]; exact ⟨rfl, h1, h2, h3⟩
theorem nfS_b {l : Nat} {N P : Nat → Int32} {k : Nat} {F : Nat → Int32} (h : nbP l N k) : nfS l N P k F = F := by
  unfold nfS
  rw [if_neg h.1, if_neg h.2.1, if_neg h.2.2]
theorem nfS_n {l : Nat} {N P : Nat → Int32} {k : Nat} {F : Nat → Int32} (h : ¬ nbP l N k) : nfS l N P k F = noF F (nI 2) (P k) := by
  unfold nfS
  by_cases h1 : l = 4 ∧ k = 1 ∧ N 1 = N 0
  · rw [if_pos h1]
  · rw [if_neg h1]
    by_cases h2 : N k < m_least.getD (3 * l + k) 0
    · rw [if_pos h2]
    · rw [if_neg h2]
      by_cases h3 : m_most.getD (3 * l + k) 0 < N k
      · rw [if_pos h3]
      · exact absurd ⟨h1, h2, h3⟩ h
theorem nfS_id {l : Nat} {N P : Nat → Int32} {k : Nat} {F : Nat → Int32} (h : ¬ F 3 = 0) : nfS l N P k F = F := by
  unfold nfS
  rw [noF_id h]
  split
  · rfl
  · split
    · rfl
    · split <;> rfl
theorem nfN_id {l : Nat} {N P : Nat → Int32} {F : Nat → Int32} (h : ¬ F 3 = 0) : ∀ m k, nfN l N P m k F = F := by
  intro m
  induction m with
  | zero => intro k; rfl
  | succ m ih => intro k; show nfN l N P m (k + 1) (nfS l N P k F) = F; rw [nfS_id h]; exact ih (k + 1)
theorem nfN_0 {l : Nat} {N P : Nat → Int32} : ∀ m k F, nfN l N P m k F 3 = 0 → nfN l N P m k F = F ∧ ∀ j, k ≤ j → j < k + m → nbP l N j := by
  intro m
  induction m with
  | zero => intro k F h; exact ⟨rfl, fun j h1 h2 => absurd h2 (by omega)⟩
  | succ m ih =>
    intro k F h
    have h1 : nfN l N P m (k + 1) (nfS l N P k F) 3 = 0 := h
    obtain ⟨h2, h3⟩ := ih (k + 1) _ h1
    rw [h2] at h1
    obtain ⟨h4, h5⟩ := nfS_0 h1
    refine ⟨?_, fun j a b => ?_⟩
    · show nfN l N P m (k + 1) (nfS l N P k F) = F
      rw [h2]; exact h4
    · rcases Nat.lt_or_eq_of_le a with q | q
      · exact h3 j q (by omega)
      · subst q; exact h5
theorem nfN_b {l : Nat} {N P : Nat → Int32} {F : Nat → Int32} : ∀ m k, (∀ j, k ≤ j → j < k + m → nbP l N j) → nfN l N P m k F = F := by
  intro m
  induction m with
  | zero => intro k _; rfl
  | succ m ih =>
    intro k h
    show nfN l N P m (k + 1) (nfS l N P k F) = F
    rw [nfS_b (h k (Nat.le_refl _) (by omega))]
    exact ih (k + 1) (fun j a b => h j (by omega) (by omega))
/-- no fault in a line: all of it can be told -/
theorem nfF_0 {I : mI} {law l nt : Nat} {N P F : Nat → Int32} (h : nfF I law l nt N P F 3 = 0) : nfF I law l nt N P F = F ∧ F 3 = 0 ∧ tmV I law l = 0 ∧ ∀ j, j < nt → nbP l N j := by
  unfold nfF at h ⊢
  obtain ⟨h1, h2⟩ := nfN_0 nt 0 _ h
  rw [h1] at h ⊢
  by_cases ht : tmV I law l = 0
  · rw [if_pos ht] at h ⊢
    exact ⟨rfl, h, ht, fun j hj => h2 j (Nat.zero_le _) (by omega)⟩
  · rw [if_neg ht] at h
    exact absurd h (noF_n0 n3)
theorem nfF_id {I : mI} {law l nt : Nat} {N P F : Nat → Int32} (h : ¬ F 3 = 0) : nfF I law l nt N P F = F := by
  unfold nfF
  rw [noF_id h]
  split
  · exact nfN_id h nt 0
  · exact nfN_id h nt 0
