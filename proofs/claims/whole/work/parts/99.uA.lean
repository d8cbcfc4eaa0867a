/-- only the bytes before the length matter -/
theorem spW_cg {q r : Nat → Bool} : ∀ m p, (∀ j, p ≤ j → j < p + m → q j = r j) → spW q m p = spW r m p := by
  intro m
  induction m with
  | zero => intro p _; rfl
  | succ m ih =>
    intro p h
    show (if q p = true then spW q m (p + 1) else p) = (if r p = true then spW r m (p + 1) else p)
    rw [h p (Nat.le_refl _) (by omega), ih (p + 1) (fun j h1 h2 => h j (by omega) (by omega))]
def eqT (len : Nat) (T U : Nat → Int32) : Prop := ∀ j, j < len → T j = U j
theorem cg_B {len : Nat} {T U : Nat → Int32} (h : eqT len T U) : tkB T len = tkB U len := by
  funext p
  unfold tkB
  exact spW_cg _ _ (fun j h1 h2 => by unfold blB; rw [h j (by omega)])
theorem cg_E {len : Nat} {T U : Nat → Int32} (h : eqT len T U) : tkE T len = tkE U len := by
  funext p
  unfold tkE
  rw [cg_B h]
  by_cases c : len ≤ tkB U len p
  · rw [if_pos c, if_pos c]
  · rw [if_neg c, if_neg c]
    have e1 : smB T (tkB U len p) = smB U (tkB U len p) := by unfold smB; rw [h _ (by omega)]
    have e2 : dgB T (tkB U len p) = dgB U (tkB U len p) := by unfold dgB; rw [h _ (by omega)]
    rw [e1, e2, spW_cg (q := smB T) (r := smB U) _ _ (fun j h1 h2 => by unfold smB; rw [h j (by omega)]), spW_cg (q := dgB T) (r := dgB U) _ _ (fun j h1 h2 => by unfold dgB; rw [h j (by omega)])]
theorem cg_S {len : Nat} {T U : Nat → Int32} (h : eqT len T U) : tkS T len = tkS U len := by
  funext p
  unfold tkS
  rw [cg_B h, cg_E h]
  by_cases c : len ≤ tkB U len p
  · rw [if_pos c, if_pos c]
  · rw [if_neg c, if_neg c]
    have e1 : smB T (tkB U len p) = smB U (tkB U len p) := by unfold smB; rw [h _ (by omega)]
    have e2 : dgB T (tkB U len p) = dgB U (tkB U len p) := by unfold dgB; rw [h _ (by omega)]
    rw [e1, e2, h _ (by omega)]
theorem tkE_all {T : Nat → Int32} {len p : Nat} : tkE T len p ≤ len ∨ (¬ len ≤ tkB T len p ∧ tkE T len p ≤ len) := by
  by_cases c : len ≤ tkB T len p
  · left; unfold tkE; rw [if_pos c]; omega
  · left
    unfold tkE
    rw [if_neg c]
    by_cases h1 : smB T (tkB T len p) = true
    · rw [if_pos h1]; have := spW_le (q := smB T) (len - (tkB T len p + 1)) (tkB T len p + 1); omega
    · rw [if_neg h1]
      by_cases h2 : dgB T (tkB T len p) = true
      · rw [if_pos h2]; have := spW_le (q := dgB T) (len - (tkB T len p + 1)) (tkB T len p + 1); omega
      · rw [if_neg h2]; omega
theorem tkE_le2 {T : Nat → Int32} {len p : Nat} : tkE T len p ≤ len := by
  rcases tkE_all (T := T) (len := len) (p := p) with h | h
  · exact h
  · exact h.2
theorem cg_i {len : Nat} {T U : Nat → Int32} (h : eqT len T U) {p i : Nat} : iwV T (tkS T len p) (tkB T len p) (tkE T len p) i = iwV U (tkS U len p) (tkB U len p) (tkE U len p) i := by
  rw [cg_S h, cg_B h, cg_E h]
  have he := tkE_le2 (T := U) (len := len) (p := p)
  have e : iwP T (tkS U len p) (tkB U len p) (tkE U len p) i ↔ iwP U (tkS U len p) (tkB U len p) (tkE U len p) i := by
    constructor
    · intro q
      exact ⟨q.1, q.2.1, fun j hj => by rw [← h _ (by have := q.2.1; omega)]; exact q.2.2 j hj⟩
    · intro q
      exact ⟨q.1, q.2.1, fun j hj => by rw [h _ (by have := q.2.1; omega)]; exact q.2.2 j hj⟩
  unfold iwV
  by_cases c : iwP U (tkS U len p) (tkB U len p) (tkE U len p) i
  · rw [if_pos c, if_pos (e.mpr c)]
  · rw [if_neg c, if_neg (fun q => c (e.mp q))]
theorem cg_k {len : Nat} {T U : Nat → Int32} (h : eqT len T U) : kI T len = kI U len := by
  funext p
  show khC T _ _ _ = khC U _ _ _
  unfold khC
  rw [cg_i h, cg_i h, cg_i h, cg_i h]
theorem cg_kN {len : Nat} {T U : Nat → Int32} (h : eqT len T U) : kN T len = kN U len := by
  funext p; unfold kN; rw [cg_k h]
theorem nvC_cg {T U : Nat → Int32} : ∀ m p v, (∀ j, p ≤ j → j < p + m → T j = U j) → nvC T m p v = nvC U m p v := by
  intro m
  induction m with
  | zero => intro p v _; rfl
  | succ m ih =>
    intro p v h
    show nvC T m (p + 1) (nI 10 * v + T p - nI 48) = nvC U m (p + 1) (nI 10 * v + U p - nI 48)
    rw [h p (Nat.le_refl _) (by omega), ih (p + 1) _ (fun j h1 h2 => h j (by omega) (by omega))]
theorem cg_v {len : Nat} {T U : Nat → Int32} (h : eqT len T U) : vN T len = vN U len := by
  funext p
  have he := tkE_le2 (T := U) (len := len) (p := p)
  unfold vN nW
  rw [cg_B h, cg_E h, nvC_cg _ _ _ (fun j h1 h2 => h j (by omega))]
theorem cg_l {len of : Nat} {T U : Nat → Int32} (h : eqT len T U) : lA T len of = lA U len of := by
  funext p
  show laC T _ _ _ _ = laC U _ _ _ _
  unfold laC olC wlC glC
  rw [cg_i h, cg_i h, cg_i h, cg_i h, cg_i h, cg_i h, cg_i h, cg_i h, cg_i h]
theorem cg_ms {len : Nat} {T U : Nat → Int32} (h : eqT len T U) : ∀ sh p, ms T len sh p = ms U len sh p := by
  intro sh
  induction sh with
  | nil => intro p; show (decide (tkS T len p = 3), p) = _; rw [cg_S h]; rfl
  | cons a r ih =>
    intro p
    cases a with
    | true =>
      show (if kI T len p = -1 then (false, p) else ms T len r (tkE T len p)) = (if kI U len p = -1 then (false, p) else ms U len r (tkE U len p))
      rw [cg_k h, cg_E h, ih]
    | false =>
      show (if tkS T len p = 2 then ms T len r (tkE T len p) else (false, p)) = (if tkS U len p = 2 then ms U len r (tkE U len p) else (false, p))
      rw [cg_S h, cg_E h, ih]
theorem cg_st {len l b e : Nat} {T U : Nat → Int32} (h : eqT len T U) {st : TS} : stA T len l b e st = stA U len l b e st := by
  have h1 : tmA T len l e st.D = tmA U len l e st.D := by unfold tmA; rw [cg_kN h, cg_E h]
  have h2 : nuA T len l e = nuA U len l e := by unfold nuA; rw [cg_v h, cg_E h, cg_B h]
  have h3 : teA T len l e st.gh st.gl st.D = teA U len l e st.gh st.gl st.D := by unfold teA; rw [cg_v h, cg_kN h, cg_E h]
  unfold stA
  rw [h1, h2, h3]
theorem cg_rd {len of : Nat} {T U : Nat → Int32} (h : eqT len T U) : ∀ r p st, rdA T len of r p st = rdA U len of r p st := by
  intro r
  induction r with
  | zero => intro p st; rfl
  | succ r ih =>
    intro p st
    have hm : msA T len of p = msA U len of p := by unfold msA; rw [cg_ms h, cg_l h, cg_E h]
    show (if tkS T len p = 0 then finA len of st else if lA T len of p = -1 then _ else if (msA T len of p).1 = true then rdA T len of r (tkE T len (msA T len of p).2) (stA T len (lA T len of p).toNatClampNeg (tkB T len p) (tkE T len p) st) else _) = (if tkS U len p = 0 then finA len of st else if lA U len of p = -1 then _ else if (msA U len of p).1 = true then rdA U len of r (tkE U len (msA U len of p).2) (stA U len (lA U len of p).toNatClampNeg (tkB U len p) (tkE U len p) st) else _)
    rw [hm, cg_S h, cg_l h, cg_st h, cg_E h, cg_B h, ih]
/-- a fault is below 5 -/
theorem stA_5 {T : Nat → Int32} {len l b e : Nat} {st : TS} (h : st.f < 5) : (stA T len l b e st).f < 5 := by
  unfold stA
  by_cases z : st.f = 0
  · rw [if_pos z]
    by_cases f : (fcL (tmA T len l e st.D) b (nuA T len l e)).1 = 0
    · rw [if_pos f]; exact (by decide : 0 < 5)
    · rw [if_neg f]; exact fcL_le
  · rw [if_neg z]; exact h
theorem rdA_5 {T : Nat → Int32} {len of : Nat} : ∀ r p (st : TS), st.f < 5 → (rdA T len of r p st).f < 5 := by
  intro r
  induction r with
  | zero => intro p st h; exact h
  | succ r ih =>
    intro p st h
    unfold rdA
    by_cases c0 : tkS T len p = 0
    · rw [if_pos c0]
      unfold finA
      by_cases c : st.f = 0 ∧ of = 0 ∧ ¬ (st.gh < st.D 0 ∧ st.gl < st.D 1)
      · rw [if_pos c]; exact (by decide : 4 < 5)
      · rw [if_neg c]; exact h
    · rw [if_neg c0]
      by_cases c1 : lA T len of p = -1
      · rw [if_pos c1]; exact (by decide : 1 < 5)
      · rw [if_neg c1]
        by_cases c2 : (msA T len of p).1 = true
        · rw [if_pos c2]; exact ih _ _ (stA_5 h)
        · rw [if_neg c2]; exact (by decide : 1 < 5)
