theorem fgr_ge {a b : Int32} : a ≤ f_gr a b ∧ b ≤ f_gr a b ∧ (f_gr a b = a ∨ f_gr a b = b) := by
  unfold f_gr
  by_cases c : b < a
  · rw [if_pos c]; exact ⟨Int32.le_refl _, Int32.le_of_lt c, Or.inl rfl⟩
  · rw [if_neg c]; exact ⟨Int32.not_lt.mp c, Int32.le_refl _, Or.inr rfl⟩
theorem fle_le {a b : Int32} : f_le a b ≤ a ∧ f_le a b ≤ b ∧ (f_le a b = a ∨ f_le a b = b) := by
  unfold f_le
  by_cases c : a < b
  · rw [if_pos c]; exact ⟨Int32.le_refl _, Int32.le_of_lt c, Or.inl rfl⟩
  · rw [if_neg c]; exact ⟨Int32.not_lt.mp c, Int32.le_refl _, Or.inr rfl⟩
/-- the best of those of a set -/
def bsP (u : Int32) (t n : Nat) (v : Nat → Int32) (M : Int32) : Prop := (∃ i, i < n ∧ ¬ f_has (nI t) (nI i) = 0 ∧ v i = M) ∧ ∀ i, i < n → ¬ f_has (nI t) (nI i) = 0 → (u = 0 → v i ≤ M) ∧ (¬ u = 0 → M ≤ v i)
theorem foA_k {K : mI} {ko : Nat} {B : Nat → Int32} {t : Nat} {u x s0 : Int32} : ∀ n, (∀ i, i < n → ¬ f_has (nI t) (nI i) = 0 → (u = 0 → s0 ≤ obR K ko B t i x) ∧ (¬ u = 0 → obR K ko B t i x ≤ s0)) → ((∀ i, i < n → f_has (nI t) (nI i) = 0) ∧ foA K ko B t u x s0 n = s0) ∨ bsP u t n (fun i => obR K ko B t i x) (foA K ko B t u x s0 n) := by
  intro n
  induction n with
  | zero => intro _; exact Or.inl ⟨fun i hi => absurd hi (by omega), rfl⟩
  | succ n ih =>
    intro h
    have q := ih (fun i hi => h i (by omega))
    have e : foA K ko B t u x s0 (n + 1) = foAS K ko B t u x n (foA K ko B t u x s0 n) := rfl
    rw [e]
    unfold foAS
    generalize foA K ko B t u x s0 n = r at q
    by_cases c : f_has (nI t) (nI n) = 0
    · rw [if_pos c]
      rcases q with ⟨a, b⟩ | ⟨⟨i, a1, a2, a3⟩, b⟩
      · exact Or.inl ⟨fun i hi => by
          by_cases w : i = n
          · subst w; exact c
          · exact a i (by omega), b⟩
      · exact Or.inr ⟨⟨i, by omega, a2, a3⟩, fun j hj hb => by
          by_cases w : j = n
          · subst w; exact absurd c hb
          · exact b j (by omega) hb⟩
    · rw [if_neg c]
      right
      have hn := h n (by omega) c
      by_cases hu : u = 0
      · rw [if_pos hu]
        obtain ⟨g1, g2, g3⟩ := fgr_ge (a := r) (b := obR K ko B t n x)
        have hr : r = s0 ∧ (∀ i, i < n → f_has (nI t) (nI i) = 0) ∨ bsP u t n (fun i => obR K ko B t i x) r := by
          rcases q with ⟨a, b⟩ | q
          · exact Or.inl ⟨b, a⟩
          · exact Or.inr q
        refine ⟨?_, fun j hj hb => ⟨fun _ => ?_, fun w => absurd hu w⟩⟩
        · rcases g3 with g | g
          · rcases hr with ⟨b, a⟩ | ⟨⟨i, a1, a2, a3⟩, _⟩
            · refine ⟨n, by omega, c, ?_⟩
              show obR K ko B t n x = _
              rw [g]
              exact Int32.le_antisymm (by rw [← g]; exact g2) (by rw [b]; exact hn.1 hu)
            · exact ⟨i, by omega, a2, by rw [g]; exact a3⟩
          · exact ⟨n, by omega, c, g.symm⟩
        · by_cases w : j = n
          · subst w; exact g2
          · rcases hr with ⟨b, a⟩ | ⟨_, a⟩
            · exact absurd (a j (by omega)) hb
            · exact Int32.le_trans ((a j (by omega) hb).1 hu) g1
      · rw [if_neg hu]
        obtain ⟨g1, g2, g3⟩ := fle_le (a := r) (b := obR K ko B t n x)
        have hr : r = s0 ∧ (∀ i, i < n → f_has (nI t) (nI i) = 0) ∨ bsP u t n (fun i => obR K ko B t i x) r := by
          rcases q with ⟨a, b⟩ | q
          · exact Or.inl ⟨b, a⟩
          · exact Or.inr q
        refine ⟨?_, fun j hj hb => ⟨fun w => absurd w hu, fun _ => ?_⟩⟩
        · rcases g3 with g | g
          · rcases hr with ⟨b, a⟩ | ⟨⟨i, a1, a2, a3⟩, _⟩
            · refine ⟨n, by omega, c, ?_⟩
              show obR K ko B t n x = _
              rw [g]
              exact Int32.le_antisymm (by rw [b]; exact hn.2 hu) (by rw [← g]; exact g2)
            · exact ⟨i, by omega, a2, by rw [g]; exact a3⟩
          · exact ⟨n, by omega, c, g.symm⟩
        · by_cases w : j = n
          · subst w; exact g2
          · rcases hr with ⟨b, a⟩ | ⟨_, a⟩
            · exact absurd (a j (by omega)) hb
            · exact Int32.le_trans g1 ((a j (by omega) hb).2 hu)
theorem foA_cg {K : mI} {ko nl : Nat} {B B' : Nat → Int32} {t : Nat} {u x s0 : Int32} (hW : WFk K ko) (hnl : nl ≤ 10) (ht : t < 1024) (hB : ∀ j, j < 5 * t → B j = B' j) : ∀ n, n ≤ nl → foA K ko B t u x s0 n = foA K ko B' t u x s0 n := by
  intro n
  induction n with
  | zero => intro _; rfl
  | succ n ih =>
    intro hn
    show foAS K ko B t u x n (foA K ko B t u x s0 n) = foAS K ko B' t u x n (foA K ko B' t u x s0 n)
    rw [ih (by omega)]
    unfold foAS
    by_cases c : f_has (nI t) (nI n) = 0
    · rw [if_pos c, if_pos c]
    · have e : obR K ko B t n x = obR K ko B' t n x := by
        unfold obR
        have h1 := rm_sm (t := t) (l := n) (by omega) (by omega) c
        have h2 := (hW n (by omega)).2
        rw [hB _ (by omega)]
      rw [e]
theorem foV_cg {K : mI} {ko nl : Nat} {B B' : Nat → Int32} {t : Nat} {u x : Int32} (hW : WFk K ko) (hnl : nl ≤ 10) (ht : t < 1024) (hB : ∀ j, j < 5 * t → B j = B' j) : foV K ko nl B t u x = foV K ko nl B' t u x := foA_cg hW hnl ht hB nl (Nat.le_refl _)
def slA (a : Nat) : Int32 := if a = 0 then -1 else nI (a - 1)
theorem foS_k {K : mI} {ko nl : Nat} {B : Nat → Int32} {t : Nat} {u : Int32} (hW : WFk K ko) (hnl : nl ≤ 10) (ht : t < 1024) : (∀ a, a < 5 → foS K ko nl B t u (5 * t + a) = foV K ko nl B t u (slA a)) ∧ ∀ j, (j < 5 * t ∨ 5 * t + 5 ≤ j) → foS K ko nl B t u j = B j := by
  have o1 : ∀ j, (j < 5 * t ∨ 5 * t + 5 ≤ j) → fo1 K ko nl B t u j = B j := fun j hj => va_up_ne _ _ (by omega)
  have o2 : ∀ (C : Nat → Int32) a, a < 4 → ∀ j, (j < 5 * t ∨ 5 * t + 5 ≤ j) → fo2 K ko nl C t u a j = C j := fun C a ha j hj => va_up_ne _ _ (by omega)
  have c1 : ∀ j, j < 5 * t → fo1 K ko nl B t u j = B j := fun j hj => o1 j (Or.inl hj)
  have c2 : ∀ j, j < 5 * t → fo2 K ko nl (fo1 K ko nl B t u) t u 0 j = B j := fun j hj => (o2 _ 0 (by decide) j (Or.inl hj)).trans (c1 j hj)
  have c3 : ∀ j, j < 5 * t → fo2 K ko nl (fo2 K ko nl (fo1 K ko nl B t u) t u 0) t u 1 j = B j := fun j hj => (o2 _ 1 (by decide) j (Or.inl hj)).trans (c2 j hj)
  have c4 : ∀ j, j < 5 * t → fo2 K ko nl (fo2 K ko nl (fo2 K ko nl (fo1 K ko nl B t u) t u 0) t u 1) t u 2 j = B j := fun j hj => (o2 _ 2 (by decide) j (Or.inl hj)).trans (c3 j hj)
  refine ⟨fun a ha => ?_, fun j hj => ?_⟩
  · rcases (show a = 0 ∨ a = 1 ∨ a = 2 ∨ a = 3 ∨ a = 4 by omega) with e | e | e | e | e
    · subst e
      unfold foS fo2
      rw [va_up_ne _ _ (by omega), va_up_ne _ _ (by omega), va_up_ne _ _ (by omega), va_up_ne _ _ (by omega)]
      exact va_up_self _ _ _
    · subst e
      unfold foS
      rw [show fo2 K ko nl (fo2 K ko nl (fo2 K ko nl (fo2 K ko nl (fo1 K ko nl B t u) t u 0) t u 1) t u 2) t u 3 (5 * t + 1) = fo2 K ko nl (fo1 K ko nl B t u) t u 0 (5 * t + 1 + 0) from (va_up_ne _ _ (by omega)).trans ((va_up_ne _ _ (by omega)).trans (va_up_ne _ _ (by omega)))]
      exact (va_up_self _ _ _).trans (foV_cg hW hnl ht c1)
    · subst e
      unfold foS
      rw [show fo2 K ko nl (fo2 K ko nl (fo2 K ko nl (fo2 K ko nl (fo1 K ko nl B t u) t u 0) t u 1) t u 2) t u 3 (5 * t + 2) = fo2 K ko nl (fo2 K ko nl (fo1 K ko nl B t u) t u 0) t u 1 (5 * t + 1 + 1) from (va_up_ne _ _ (by omega)).trans (va_up_ne _ _ (by omega))]
      exact (va_up_self _ _ _).trans (foV_cg hW hnl ht c2)
    · subst e
      unfold foS
      rw [show fo2 K ko nl (fo2 K ko nl (fo2 K ko nl (fo2 K ko nl (fo1 K ko nl B t u) t u 0) t u 1) t u 2) t u 3 (5 * t + 3) = fo2 K ko nl (fo2 K ko nl (fo2 K ko nl (fo1 K ko nl B t u) t u 0) t u 1) t u 2 (5 * t + 1 + 2) from va_up_ne _ _ (by omega)]
      exact (va_up_self _ _ _).trans (foV_cg hW hnl ht c3)
    · subst e
      unfold foS
      rw [show 5 * t + 4 = 5 * t + 1 + 3 by omega]
      exact (va_up_self _ _ _).trans (foV_cg hW hnl ht c4)
  · unfold foS
    rw [o2 _ 3 (by decide) j hj, o2 _ 2 (by decide) j hj, o2 _ 1 (by decide) j hj, o2 _ 0 (by decide) j hj]
    exact o1 j hj
/-- the table of all sets -/
theorem foN_k {K : mI} {ko nl : Nat} {B : Nat → Int32} {am u : Int32} (hW : WFk K ko) (hnl : nl ≤ 10) : ∀ n, n ≤ 1024 → (∀ t, t < n → (nI t &&& (am ^^^ -1)) = 0 → ∀ a, a < 5 → foN K ko nl am u B n (5 * t + a) = foV K ko nl (foN K ko nl am u B n) t u (slA a)) := by
  intro n
  induction n with
  | zero => intro _ t ht; exact absurd ht (by omega)
  | succ n ih =>
    intro hn t ht hs a ha
    have q := ih (by omega)
    have e : foN K ko nl am u B (n + 1) = if (nI n &&& (am ^^^ -1)) = 0 then foS K ko nl (foN K ko nl am u B n) n u else foN K ko nl am u B n := rfl
    rw [e]
    generalize foN K ko nl am u B n = r at q
    by_cases c : (nI n &&& (am ^^^ -1)) = 0
    · rw [if_pos c]
      obtain ⟨g1, g2⟩ := foS_k (B := r) (t := n) (u := u) hW hnl (show n < 1024 by omega)
      have cg : ∀ j, j < 5 * n → foS K ko nl r n u j = r j := fun j hj => g2 j (Or.inl hj)
      by_cases w : t = n
      · subst w
        rw [g1 a ha]
        exact (foV_cg hW hnl (by omega) cg).symm
      · rw [cg (5 * t + a) (by omega), q t (by omega) hs a ha]
        exact (foV_cg hW hnl (by omega) (fun j hj => cg j (by omega))).symm
    · rw [if_neg c]
      have w : t ≠ n := fun w => by subst w; exact c hs
      exact q t (by omega) hs a ha
