/-- what stands at a token: a kind (or -1), a number -/
abbrev kI (T : Nat → Int32) (len p : Nat) : Int32 := khC T (tkS T len p) (tkB T len p) (tkE T len p)
def kN (T : Nat → Int32) (len p : Nat) : Nat := (kI T len p).toNatClampNeg
abbrev nW (T : Nat → Int32) (len p : Nat) : Int32 := nvC T (tkE T len p - tkB T len p) (tkB T len p) (nI 0)
def vN (T : Nat → Int32) (len p : Nat) : Nat := (nW T len p).toNatClampNeg
theorem kN_of {T : Nat → Int32} {len p : Nat} (h : ¬ kI T len p = -1) : kN T len p < 4 ∧ kI T len p = nI (kN T len p) := by
  rcases khC_01 (T := T) (s := tkS T len p) (b := tkB T len p) (e := tkE T len p) with c | ⟨k, hk, c⟩
  · exact absurd c h
  · have e : kN T len p = k := by unfold kN; rw [show kI T len p = nI k from c]; exact nI_clamp (by omega)
    rw [e]; exact ⟨hk, c⟩
theorem vN_of {T : Nat → Int32} {len p : Nat} (hp : p ≤ len) (h : tkS T len p = 2) : vN T len p < 100 ∧ nW T len p = nI (vN T len p) := by
  obtain ⟨w, hw, c⟩ := tk_nv hp h
  have e : vN T len p = w := by unfold vN; rw [show nW T len p = nI w from c]; exact nI_clamp (by omega)
  rw [e]; exact ⟨hw, c⟩
/-- the tokens of a line behind its word (true: a kind, false: a number), with the stop: good or not, and where -/
def ms (T : Nat → Int32) (len : Nat) : List Bool → Nat → Bool × Nat
  | [], p => (decide (tkS T len p = 3), p)
  | true :: r, p => if kI T len p = -1 then (false, p) else ms T len r (tkE T len p)
  | false :: r, p => if tkS T len p = 2 then ms T len r (tkE T len p) else (false, p)
theorem shF_k {T : Nat → Int32} {len i r j p : Nat} {x : rs5} (h : (m_byts.getD i []).getD j 0 = nI 107) (h2 : ¬ kI T len p = -1) : shF T len i (r + 1) j p x = shF T len i r (j + 1) (tkE T len p) (x.1 + 1, x.2.1, va_up x.2.2.1 x.1 (kI T len p), x.2.2.2.1, x.2.2.2.2) := by
  show (if _ then _ else _) = _
  rw [if_pos h, if_neg h2]
theorem shF_k0 {T : Nat → Int32} {len i r j p : Nat} {x : rs5} (h : (m_byts.getD i []).getD j 0 = nI 107) (h2 : kI T len p = -1) : shF T len i (r + 1) j p x = (false, p, x) := by
  show (if _ then _ else _) = _
  rw [if_pos h, if_pos h2]
theorem shF_n {T : Nat → Int32} {len i r j p : Nat} {x : rs5} (h : ¬ (m_byts.getD i []).getD j 0 = nI 107) (h2 : tkS T len p = 2) : shF T len i (r + 1) j p x = shF T len i r (j + 1) (tkE T len p) (x.1, x.2.1 + 1, x.2.2.1, va_up x.2.2.2.1 x.2.1 (nW T len p), va_up x.2.2.2.2 x.2.1 (nI (tkB T len p))) := by
  show (if _ then _ else _) = _
  rw [if_neg h, if_pos h2]
theorem shF_n0 {T : Nat → Int32} {len i r j p : Nat} {x : rs5} (h : ¬ (m_byts.getD i []).getD j 0 = nI 107) (h2 : ¬ tkS T len p = 2) : shF T len i (r + 1) j p x = (false, p, x) := by
  show (if _ then _ else _) = _
  rw [if_neg h, if_neg h2]
theorem shF_ms {T : Nat → Int32} {len i : Nat} : ∀ (sh : List Bool) (j p : Nat) (x : rs5), (∀ t, t < sh.length → ((m_byts.getD i []).getD (j + t) 0 = nI 107 ↔ sh.getD t false = true)) → ms T len sh p = if (shF T len i sh.length j p x).1 = true then (decide (tkS T len (shF T len i sh.length j p x).2.1 = 3), (shF T len i sh.length j p x).2.1) else (false, (shF T len i sh.length j p x).2.1) := by
  intro sh
  induction sh with
  | nil => intro j p x _; rfl
  | cons a r ih =>
    intro j p x h
    have h0 := h 0 (by show 0 < r.length + 1; omega)
    have hr : ∀ t, t < r.length → ((m_byts.getD i []).getD (j + 1 + t) 0 = nI 107 ↔ r.getD t false = true) := fun t ht => by
      have q := h (t + 1) (by show t + 1 < r.length + 1; omega)
      rw [show j + 1 + t = j + (t + 1) by omega]; exact q
    cases a with
    | true =>
      have h1 : (m_byts.getD i []).getD j 0 = nI 107 := h0.mpr rfl
      by_cases c : kI T len p = -1
      · rw [show (true :: r).length = r.length + 1 from rfl, shF_k0 h1 c]
        show (if kI T len p = -1 then (false, p) else _) = _
        rw [if_pos c, if_neg Bool.false_ne_true]
      · rw [show (true :: r).length = r.length + 1 from rfl, shF_k h1 c]
        show (if kI T len p = -1 then (false, p) else _) = _
        rw [if_neg c]
        exact ih (j + 1) (tkE T len p) _ hr
    | false =>
      have h1 : ¬ (m_byts.getD i []).getD j 0 = nI 107 := fun q => Bool.false_ne_true (h0.mp q)
      by_cases c : tkS T len p = 2
      · rw [show (false :: r).length = r.length + 1 from rfl, shF_n h1 c]
        show (if tkS T len p = 2 then _ else (false, p)) = _
        rw [if_pos c]
        exact ih (j + 1) (tkE T len p) _ hr
      · rw [show (false :: r).length = r.length + 1 from rfl, shF_n0 h1 c]
        show (if tkS T len p = 2 then _ else (false, p)) = _
        rw [if_neg c, if_neg Bool.false_ne_true]
theorem rx9 {T : Nat → Int32} {len e : Nat} {K N P : Nat → Int32} (ho : (rlX T len 9 1 e K N P).1 = true) : tkS T len e = 2 ∧ rlX T len 9 1 e K N P = (true, (tkE T len e), (0, 1, K, (va_up N 0 (nW T len e)), (va_up P 0 (nI (tkB T len e))))) := by
  replace ho : (shF T len 9 1 0 e (0, 0, K, N, P)).1 = true := ho
  have t0 : tkS T len e = 2 := by
    by_cases h : tkS T len e = 2
    · exact h
    · have q := shF_n0 (T := T) (len := len) (i := 9) (r := 0) (j := 0) (p := e) (x := (0, 0, K, N, P)) (by decide) h
      rw [q] at ho
      exact absurd ho Bool.false_ne_true
  have E0 := shF_n (T := T) (len := len) (i := 9) (r := 0) (j := 0) (p := e) (x := (0, 0, K, N, P)) (by decide) t0
  replace E0 : shF T len 9 1 0 e (0, 0, K, N, P) = shF T len 9 0 1 (tkE T len e) (0, 1, K, (va_up N 0 (nW T len e)), (va_up P 0 (nI (tkB T len e)))) := E0
  exact ⟨t0, by show shF T len 9 1 0 e (0, 0, K, N, P) = _; rw [E0]; rfl⟩
theorem rx10 {T : Nat → Int32} {len e : Nat} {K N P : Nat → Int32} (ho : (rlX T len 10 3 e K N P).1 = true) : tkS T len e = 2 ∧ ¬ kI T len (tkE T len e) = -1 ∧ tkS T len (tkE T len (tkE T len e)) = 2 ∧ rlX T len 10 3 e K N P = (true, (tkE T len (tkE T len (tkE T len e))), (1, 2, (va_up K 0 (kI T len (tkE T len e))), (va_up (va_up N 0 (nW T len e)) 1 (nW T len (tkE T len (tkE T len e)))), (va_up (va_up P 0 (nI (tkB T len e))) 1 (nI (tkB T len (tkE T len (tkE T len e))))))) := by
  replace ho : (shF T len 10 3 0 e (0, 0, K, N, P)).1 = true := ho
  have t0 : tkS T len e = 2 := by
    by_cases h : tkS T len e = 2
    · exact h
    · have q := shF_n0 (T := T) (len := len) (i := 10) (r := 2) (j := 0) (p := e) (x := (0, 0, K, N, P)) (by decide) h
      rw [q] at ho
      exact absurd ho Bool.false_ne_true
  have E0 := shF_n (T := T) (len := len) (i := 10) (r := 2) (j := 0) (p := e) (x := (0, 0, K, N, P)) (by decide) t0
  replace E0 : shF T len 10 3 0 e (0, 0, K, N, P) = shF T len 10 2 1 (tkE T len e) (0, 1, K, (va_up N 0 (nW T len e)), (va_up P 0 (nI (tkB T len e)))) := E0
  have t1 : ¬ kI T len (tkE T len e) = -1 := fun h => by
    have q := shF_k0 (T := T) (len := len) (i := 10) (r := 1) (j := 1) (p := (tkE T len e)) (x := (0, 1, K, (va_up N 0 (nW T len e)), (va_up P 0 (nI (tkB T len e))))) (by decide) h
    rw [E0, q] at ho
    exact absurd ho Bool.false_ne_true
  have E1 := shF_k (T := T) (len := len) (i := 10) (r := 1) (j := 1) (p := (tkE T len e)) (x := (0, 1, K, (va_up N 0 (nW T len e)), (va_up P 0 (nI (tkB T len e))))) (by decide) t1
  replace E1 : shF T len 10 2 1 (tkE T len e) (0, 1, K, (va_up N 0 (nW T len e)), (va_up P 0 (nI (tkB T len e)))) = shF T len 10 1 2 (tkE T len (tkE T len e)) (1, 1, (va_up K 0 (kI T len (tkE T len e))), (va_up N 0 (nW T len e)), (va_up P 0 (nI (tkB T len e)))) := E1
  have t2 : tkS T len (tkE T len (tkE T len e)) = 2 := by
    by_cases h : tkS T len (tkE T len (tkE T len e)) = 2
    · exact h
    · have q := shF_n0 (T := T) (len := len) (i := 10) (r := 0) (j := 2) (p := (tkE T len (tkE T len e))) (x := (1, 1, (va_up K 0 (kI T len (tkE T len e))), (va_up N 0 (nW T len e)), (va_up P 0 (nI (tkB T len e))))) (by decide) h
      rw [E0, E1, q] at ho
      exact absurd ho Bool.false_ne_true
  have E2 := shF_n (T := T) (len := len) (i := 10) (r := 0) (j := 2) (p := (tkE T len (tkE T len e))) (x := (1, 1, (va_up K 0 (kI T len (tkE T len e))), (va_up N 0 (nW T len e)), (va_up P 0 (nI (tkB T len e))))) (by decide) t2
  replace E2 : shF T len 10 1 2 (tkE T len (tkE T len e)) (1, 1, (va_up K 0 (kI T len (tkE T len e))), (va_up N 0 (nW T len e)), (va_up P 0 (nI (tkB T len e)))) = shF T len 10 0 3 (tkE T len (tkE T len (tkE T len e))) (1, 2, (va_up K 0 (kI T len (tkE T len e))), (va_up (va_up N 0 (nW T len e)) 1 (nW T len (tkE T len (tkE T len e)))), (va_up (va_up P 0 (nI (tkB T len e))) 1 (nI (tkB T len (tkE T len (tkE T len e)))))) := E2
  exact ⟨t0, t1, t2, by show shF T len 10 3 0 e (0, 0, K, N, P) = _; rw [E0, E1, E2]; rfl⟩
theorem rx11 {T : Nat → Int32} {len e : Nat} {K N P : Nat → Int32} (ho : (rlX T len 11 3 e K N P).1 = true) : ¬ kI T len e = -1 ∧ ¬ kI T len (tkE T len e) = -1 ∧ tkS T len (tkE T len (tkE T len e)) = 2 ∧ rlX T len 11 3 e K N P = (true, (tkE T len (tkE T len (tkE T len e))), (2, 1, (va_up (va_up K 0 (kI T len e)) 1 (kI T len (tkE T len e))), (va_up N 0 (nW T len (tkE T len (tkE T len e)))), (va_up P 0 (nI (tkB T len (tkE T len (tkE T len e))))))) := by
  replace ho : (shF T len 11 3 0 e (0, 0, K, N, P)).1 = true := ho
  have t0 : ¬ kI T len e = -1 := fun h => by
    have q := shF_k0 (T := T) (len := len) (i := 11) (r := 2) (j := 0) (p := e) (x := (0, 0, K, N, P)) (by decide) h
    rw [q] at ho
    exact absurd ho Bool.false_ne_true
  have E0 := shF_k (T := T) (len := len) (i := 11) (r := 2) (j := 0) (p := e) (x := (0, 0, K, N, P)) (by decide) t0
  replace E0 : shF T len 11 3 0 e (0, 0, K, N, P) = shF T len 11 2 1 (tkE T len e) (1, 0, (va_up K 0 (kI T len e)), N, P) := E0
  have t1 : ¬ kI T len (tkE T len e) = -1 := fun h => by
    have q := shF_k0 (T := T) (len := len) (i := 11) (r := 1) (j := 1) (p := (tkE T len e)) (x := (1, 0, (va_up K 0 (kI T len e)), N, P)) (by decide) h
    rw [E0, q] at ho
    exact absurd ho Bool.false_ne_true
  have E1 := shF_k (T := T) (len := len) (i := 11) (r := 1) (j := 1) (p := (tkE T len e)) (x := (1, 0, (va_up K 0 (kI T len e)), N, P)) (by decide) t1
  replace E1 : shF T len 11 2 1 (tkE T len e) (1, 0, (va_up K 0 (kI T len e)), N, P) = shF T len 11 1 2 (tkE T len (tkE T len e)) (2, 0, (va_up (va_up K 0 (kI T len e)) 1 (kI T len (tkE T len e))), N, P) := E1
  have t2 : tkS T len (tkE T len (tkE T len e)) = 2 := by
    by_cases h : tkS T len (tkE T len (tkE T len e)) = 2
    · exact h
    · have q := shF_n0 (T := T) (len := len) (i := 11) (r := 0) (j := 2) (p := (tkE T len (tkE T len e))) (x := (2, 0, (va_up (va_up K 0 (kI T len e)) 1 (kI T len (tkE T len e))), N, P)) (by decide) h
      rw [E0, E1, q] at ho
      exact absurd ho Bool.false_ne_true
  have E2 := shF_n (T := T) (len := len) (i := 11) (r := 0) (j := 2) (p := (tkE T len (tkE T len e))) (x := (2, 0, (va_up (va_up K 0 (kI T len e)) 1 (kI T len (tkE T len e))), N, P)) (by decide) t2
  replace E2 : shF T len 11 1 2 (tkE T len (tkE T len e)) (2, 0, (va_up (va_up K 0 (kI T len e)) 1 (kI T len (tkE T len e))), N, P) = shF T len 11 0 3 (tkE T len (tkE T len (tkE T len e))) (2, 1, (va_up (va_up K 0 (kI T len e)) 1 (kI T len (tkE T len e))), (va_up N 0 (nW T len (tkE T len (tkE T len e)))), (va_up P 0 (nI (tkB T len (tkE T len (tkE T len e)))))) := E2
  exact ⟨t0, t1, t2, by show shF T len 11 3 0 e (0, 0, K, N, P) = _; rw [E0, E1, E2]; rfl⟩
theorem rx12 {T : Nat → Int32} {len e : Nat} {K N P : Nat → Int32} (ho : (rlX T len 12 3 e K N P).1 = true) : tkS T len e = 2 ∧ tkS T len (tkE T len e) = 2 ∧ tkS T len (tkE T len (tkE T len e)) = 2 ∧ rlX T len 12 3 e K N P = (true, (tkE T len (tkE T len (tkE T len e))), (0, 3, K, (va_up (va_up (va_up N 0 (nW T len e)) 1 (nW T len (tkE T len e))) 2 (nW T len (tkE T len (tkE T len e)))), (va_up (va_up (va_up P 0 (nI (tkB T len e))) 1 (nI (tkB T len (tkE T len e)))) 2 (nI (tkB T len (tkE T len (tkE T len e))))))) := by
  replace ho : (shF T len 12 3 0 e (0, 0, K, N, P)).1 = true := ho
  have t0 : tkS T len e = 2 := by
    by_cases h : tkS T len e = 2
    · exact h
    · have q := shF_n0 (T := T) (len := len) (i := 12) (r := 2) (j := 0) (p := e) (x := (0, 0, K, N, P)) (by decide) h
      rw [q] at ho
      exact absurd ho Bool.false_ne_true
  have E0 := shF_n (T := T) (len := len) (i := 12) (r := 2) (j := 0) (p := e) (x := (0, 0, K, N, P)) (by decide) t0
  replace E0 : shF T len 12 3 0 e (0, 0, K, N, P) = shF T len 12 2 1 (tkE T len e) (0, 1, K, (va_up N 0 (nW T len e)), (va_up P 0 (nI (tkB T len e)))) := E0
  have t1 : tkS T len (tkE T len e) = 2 := by
    by_cases h : tkS T len (tkE T len e) = 2
    · exact h
    · have q := shF_n0 (T := T) (len := len) (i := 12) (r := 1) (j := 1) (p := (tkE T len e)) (x := (0, 1, K, (va_up N 0 (nW T len e)), (va_up P 0 (nI (tkB T len e))))) (by decide) h
      rw [E0, q] at ho
      exact absurd ho Bool.false_ne_true
  have E1 := shF_n (T := T) (len := len) (i := 12) (r := 1) (j := 1) (p := (tkE T len e)) (x := (0, 1, K, (va_up N 0 (nW T len e)), (va_up P 0 (nI (tkB T len e))))) (by decide) t1
  replace E1 : shF T len 12 2 1 (tkE T len e) (0, 1, K, (va_up N 0 (nW T len e)), (va_up P 0 (nI (tkB T len e)))) = shF T len 12 1 2 (tkE T len (tkE T len e)) (0, 2, K, (va_up (va_up N 0 (nW T len e)) 1 (nW T len (tkE T len e))), (va_up (va_up P 0 (nI (tkB T len e))) 1 (nI (tkB T len (tkE T len e))))) := E1
  have t2 : tkS T len (tkE T len (tkE T len e)) = 2 := by
    by_cases h : tkS T len (tkE T len (tkE T len e)) = 2
    · exact h
    · have q := shF_n0 (T := T) (len := len) (i := 12) (r := 0) (j := 2) (p := (tkE T len (tkE T len e))) (x := (0, 2, K, (va_up (va_up N 0 (nW T len e)) 1 (nW T len (tkE T len e))), (va_up (va_up P 0 (nI (tkB T len e))) 1 (nI (tkB T len (tkE T len e)))))) (by decide) h
      rw [E0, E1, q] at ho
      exact absurd ho Bool.false_ne_true
  have E2 := shF_n (T := T) (len := len) (i := 12) (r := 0) (j := 2) (p := (tkE T len (tkE T len e))) (x := (0, 2, K, (va_up (va_up N 0 (nW T len e)) 1 (nW T len (tkE T len e))), (va_up (va_up P 0 (nI (tkB T len e))) 1 (nI (tkB T len (tkE T len e)))))) (by decide) t2
  replace E2 : shF T len 12 1 2 (tkE T len (tkE T len e)) (0, 2, K, (va_up (va_up N 0 (nW T len e)) 1 (nW T len (tkE T len e))), (va_up (va_up P 0 (nI (tkB T len e))) 1 (nI (tkB T len (tkE T len e))))) = shF T len 12 0 3 (tkE T len (tkE T len (tkE T len e))) (0, 3, K, (va_up (va_up (va_up N 0 (nW T len e)) 1 (nW T len (tkE T len e))) 2 (nW T len (tkE T len (tkE T len e)))), (va_up (va_up (va_up P 0 (nI (tkB T len e))) 1 (nI (tkB T len (tkE T len e)))) 2 (nI (tkB T len (tkE T len (tkE T len e)))))) := E2
  exact ⟨t0, t1, t2, by show shF T len 12 3 0 e (0, 0, K, N, P) = _; rw [E0, E1, E2]; rfl⟩
theorem rx13 {T : Nat → Int32} {len e : Nat} {K N P : Nat → Int32} (ho : (rlX T len 13 0 e K N P).1 = true) : rlX T len 13 0 e K N P = (true, e, (0, 0, K, N, P)) := by

  rfl
theorem rx14 {T : Nat → Int32} {len e : Nat} {K N P : Nat → Int32} (ho : (rlX T len 14 2 e K N P).1 = true) : tkS T len e = 2 ∧ tkS T len (tkE T len e) = 2 ∧ rlX T len 14 2 e K N P = (true, (tkE T len (tkE T len e)), (0, 2, K, (va_up (va_up N 0 (nW T len e)) 1 (nW T len (tkE T len e))), (va_up (va_up P 0 (nI (tkB T len e))) 1 (nI (tkB T len (tkE T len e)))))) := by
  replace ho : (shF T len 14 2 0 e (0, 0, K, N, P)).1 = true := ho
  have t0 : tkS T len e = 2 := by
    by_cases h : tkS T len e = 2
    · exact h
    · have q := shF_n0 (T := T) (len := len) (i := 14) (r := 1) (j := 0) (p := e) (x := (0, 0, K, N, P)) (by decide) h
      rw [q] at ho
      exact absurd ho Bool.false_ne_true
  have E0 := shF_n (T := T) (len := len) (i := 14) (r := 1) (j := 0) (p := e) (x := (0, 0, K, N, P)) (by decide) t0
  replace E0 : shF T len 14 2 0 e (0, 0, K, N, P) = shF T len 14 1 1 (tkE T len e) (0, 1, K, (va_up N 0 (nW T len e)), (va_up P 0 (nI (tkB T len e)))) := E0
  have t1 : tkS T len (tkE T len e) = 2 := by
    by_cases h : tkS T len (tkE T len e) = 2
    · exact h
    · have q := shF_n0 (T := T) (len := len) (i := 14) (r := 0) (j := 1) (p := (tkE T len e)) (x := (0, 1, K, (va_up N 0 (nW T len e)), (va_up P 0 (nI (tkB T len e))))) (by decide) h
      rw [E0, q] at ho
      exact absurd ho Bool.false_ne_true
  have E1 := shF_n (T := T) (len := len) (i := 14) (r := 0) (j := 1) (p := (tkE T len e)) (x := (0, 1, K, (va_up N 0 (nW T len e)), (va_up P 0 (nI (tkB T len e))))) (by decide) t1
  replace E1 : shF T len 14 1 1 (tkE T len e) (0, 1, K, (va_up N 0 (nW T len e)), (va_up P 0 (nI (tkB T len e)))) = shF T len 14 0 2 (tkE T len (tkE T len e)) (0, 2, K, (va_up (va_up N 0 (nW T len e)) 1 (nW T len (tkE T len e))), (va_up (va_up P 0 (nI (tkB T len e))) 1 (nI (tkB T len (tkE T len e))))) := E1
  exact ⟨t0, t1, by show shF T len 14 2 0 e (0, 0, K, N, P) = _; rw [E0, E1]; rfl⟩
/-- the first fault of a list of numbers, and of a line -/
def fcN : List (Bool × Nat) → Nat × Nat
  | [] => (0, 0)
  | x :: r => if x.1 = true then (2, x.2) else fcN r
def fcL (tb : Bool) (b : Nat) (L : List (Bool × Nat)) : Nat × Nat := if tb = true then (3, b) else fcN L
theorem fcN_01 : ∀ L, (fcN L).1 = 0 ∨ (fcN L).1 = 2 := by
  intro L
  induction L with
  | nil => exact Or.inl rfl
  | cons x r ih =>
    by_cases c : x.1 = true
    · exact Or.inr (by show (if x.1 = true then ((2, x.2) : Nat × Nat) else fcN r).1 = 2; rw [if_pos c])
    · rw [show fcN (x :: r) = fcN r by show (if x.1 = true then ((2, x.2) : Nat × Nat) else fcN r) = _; rw [if_neg c]]; exact ih
theorem fcL_le {tb : Bool} {b : Nat} {L : List (Bool × Nat)} : (fcL tb b L).1 < 5 := by
  unfold fcL
  by_cases c : tb = true
  · rw [if_pos c]; exact (by decide : 3 < 5)
  · rw [if_neg c]; rcases fcN_01 L with h | h <;> omega
def okL (l : Nat) (N P : Nat → Int32) : Nat → List (Bool × Nat) → Prop
  | _, [] => True
  | k, x :: r => ((x.1 = true ↔ ¬ nbP l N k) ∧ P k = nI x.2) ∧ okL l N P (k + 1) r
def fxF (F : Nat → Int32) (x : Nat × Nat) : Nat → Int32 := if x.1 = 0 then F else va_up (va_up F 3 (nI x.1)) 4 (nI x.2)
theorem nfN_fc {l : Nat} {N P : Nat → Int32} : ∀ (L : List (Bool × Nat)) k F, F 3 = 0 → okL l N P k L → nfN l N P L.length k F = fxF F (fcN L) := by
  intro L
  induction L with
  | nil => intro k F _ _; rfl
  | cons x r ih =>
    intro k F hF ho
    obtain ⟨⟨h1, h2⟩, h3⟩ := ho
    show nfN l N P r.length (k + 1) (nfS l N P k F) = _
    by_cases c : x.1 = true
    · rw [nfS_n (h1.mp c), nfN_id (noF_n0 n2)]
      show _ = fxF F (if x.1 = true then (2, x.2) else fcN r)
      rw [if_pos c]
      unfold noF fxF
      rw [if_pos hF, h2]; rfl
    · have hb : nbP l N k := Classical.byContradiction (fun q => c (h1.mpr q))
      rw [nfS_b hb, ih (k + 1) F hF h3]
      rw [show fcN (x :: r) = fcN r by show (if x.1 = true then ((2, x.2) : Nat × Nat) else fcN r) = _; rw [if_neg c]]
theorem nfF_fc {I : mI} {law l b : Nat} {N P F : Nat → Int32} {tb : Bool} {L : List (Bool × Nat)} (h3 : F 3 = 0) (h10 : F 10 = nI b) (ht : tb = true ↔ ¬ tmV I law l = 0) (ho : okL l N P 0 L) : nfF I law l L.length N P F = fxF F (fcL tb b L) := by
  unfold nfF fcL
  by_cases c : tb = true
  · rw [if_pos c, if_neg (ht.mp c), nfN_id (noF_n0 n3), h10]
    unfold noF fxF
    rw [if_pos h3]; rfl
  · have hz : tmV I law l = 0 := Classical.byContradiction (fun q => c (ht.mpr q))
    rw [if_neg c, if_pos hz]
    exact nfN_fc L 0 F h3 ho
def bdB (v lo hi : Nat) : Bool := decide (v < lo ∨ hi < v)
theorem bd_nb {l k v lo hi : Nat} {N : Nat → Int32} (hN : N k = nI v) (hv : v < 100) (h1 : m_least.getD (3 * l + k) 0 = nI lo) (h2 : m_most.getD (3 * l + k) 0 = nI hi) (hlo : lo < 100) (hhi : hi < 100) (hm : ¬ (l = 4 ∧ k = 1)) : bdB v lo hi = true ↔ ¬ nbP l N k := by
  unfold bdB nbP
  rw [hN, h1, h2, nI_ltI (by omega) (by omega), nI_ltI (by omega) (by omega), decide_eq_true_iff]
  constructor
  · intro c q; omega
  · intro c
    by_cases c1 : v < lo
    · exact Or.inl c1
    · by_cases c2 : hi < v
      · exact Or.inr c2
      · exact absurd ⟨fun q => hm ⟨q.1, q.2.1⟩, c1, c2⟩ c
theorem bd_nb4 {v u : Nat} {N : Nat → Int32} (hN : N 1 = nI v) (hN0 : N 0 = nI u) (hv : v < 100) (hu : u < 100) : (bdB v 0 9 || decide (v = u)) = true ↔ ¬ nbP 4 N 1 := by
  unfold bdB nbP
  rw [hN, hN0, show m_least.getD (3 * 4 + 1) 0 = nI 0 by decide, show m_most.getD (3 * 4 + 1) 0 = nI 9 by decide, nI_ltI (by omega) (by omega), nI_ltI (by omega) (by omega), nI_eq (by omega) (by omega), Bool.or_eq_true, decide_eq_true_iff, decide_eq_true_iff]
  constructor
  · intro c q
    rcases c with c | c
    · omega
    · exact q.1 ⟨rfl, rfl, c⟩
  · intro c
    by_cases c1 : v = u
    · exact Or.inr c1
    · by_cases c2 : 9 < v
      · exact Or.inl (Or.inr c2)
      · exact absurd ⟨fun q => c1 q.2.2, by omega, c2⟩ c
/-- what is told while a text is read -/
abbrev TS : Type := Nat × Nat × Int32 × Int32 × (Nat → Int32)
abbrev TS.f (s : TS) : Nat := s.1
abbrev TS.pl (s : TS) : Nat := s.2.1
abbrev TS.gh (s : TS) : Int32 := s.2.2.1
abbrev TS.gl (s : TS) : Int32 := s.2.2.2.1
abbrev TS.D (s : TS) : Nat → Int32 := s.2.2.2.2
def mxI (g : Int32) (v : Nat) : Int32 := if g < nI v then nI v else g
def wkU (D : Nat → Int32) (c : Nat) (a l h : Int32) : Nat → Int32 := va_up (va_up (va_up (va_up D (1 + 3 * c) a) (2 + 3 * c) l) (3 + 3 * c) h) 0 (nI (c + 1))
def lgU (D : Nat → Int32) (c : Nat) (h m : Int32) : Nat → Int32 := va_up (va_up (va_up D (1 + 2 * c) h) (2 + 2 * c) m) 0 (nI (c + 1))
def ltU (D : Nat → Int32) (c : Nat) (h k f : Int32) : Nat → Int32 := va_up (va_up (va_up (va_up D (9 + c) h) (19 + c) k) (29 + c) f) 1 (nI (c + 1))
def lawU (D : Nat → Int32) (law : Nat) (x : Int32) : Nat → Int32 := if D (59 + law) = -1 then va_up (va_up D (59 + law) x) 2 (D 2 + nI 1) else va_up D (59 + law) x
def shA (l : Nat) : List Bool := match l with | 0 => [false] | 1 => [false, false] | 2 => [false, true, false] | 3 => [true, true, false] | 4 => [false, false, false] | 5 => [false] | 6 => [false, false] | 7 => [false] | 8 => [] | 9 => [false, false] | _ => []
def tmA (T : Nat → Int32) (len : Nat) (l e : Nat) (D : Nat → Int32) : Bool := match l with | 0 => false | 1 => false | 2 => decide (D 1 = nI 10) | 3 => decide (D 2 = nI 8 ∧ D (59 + (4 * (kN T len e) + (kN T len (tkE T len e)))) = -1) | 4 => false | 5 => decide (D 0 = nI 40) | 6 => decide (D 0 = nI 40) | 7 => decide (D 0 = nI 40) | 8 => decide (D 0 = nI 40) | 9 => decide (D 0 = nI 8) | _ => false
def nuA (T : Nat → Int32) (len : Nat) (l e : Nat) : List (Bool × Nat) := match l with | 0 => [(bdB (vN T len e) 1 6, tkB T len e)] | 1 => [(bdB (vN T len e) 0 5, tkB T len e), (bdB (vN T len (tkE T len e)) 0 50, tkB T len (tkE T len e))] | 2 => [(bdB (vN T len e) 0 5, tkB T len e), (bdB (vN T len (tkE T len (tkE T len e))) 1 9, tkB T len (tkE T len (tkE T len e)))] | 3 => [(bdB (vN T len (tkE T len (tkE T len e))) 0 9, tkB T len (tkE T len (tkE T len e)))] | 4 => [(bdB (vN T len e) 0 9, tkB T len e), ((bdB (vN T len (tkE T len e)) 0 9 || decide ((vN T len (tkE T len e)) = (vN T len e))), tkB T len (tkE T len e)), (bdB (vN T len (tkE T len (tkE T len e))) 0 3, tkB T len (tkE T len (tkE T len e)))] | 5 => [(bdB (vN T len e) 0 9, tkB T len e)] | 6 => [(bdB (vN T len e) 0 9, tkB T len e), (bdB (vN T len (tkE T len e)) 0 5, tkB T len (tkE T len e))] | 7 => [(bdB (vN T len e) 0 9, tkB T len e)] | 8 => [] | 9 => [(bdB (vN T len e) 0 5, tkB T len e), (bdB (vN T len (tkE T len e)) 0 99, tkB T len (tkE T len e))] | _ => []
def teA (T : Nat → Int32) (len : Nat) (l e : Nat) (gh gl : Int32) (D : Nat → Int32) : Int32 × Int32 × (Nat → Int32) := match l with | 0 => (gh, gl, (va_up D 0 (nI (vN T len e)))) | 1 => ((mxI gh (vN T len e)), gl, (va_up D (3 + (vN T len e)) (nI (vN T len (tkE T len e))))) | 2 => ((mxI gh (vN T len e)), gl, (ltU D (D 1).toNatClampNeg (nI (vN T len e)) (nI (kN T len (tkE T len e))) (nI (vN T len (tkE T len (tkE T len e)))))) | 3 => (gh, gl, (lawU D (4 * (kN T len e) + (kN T len (tkE T len e))) (nI (vN T len (tkE T len (tkE T len e)))))) | 4 => (gh, (mxI (mxI gl (vN T len e)) (vN T len (tkE T len e))), (va_up (va_up D (39 + (vN T len e)) (nI (vN T len (tkE T len e)))) (49 + (vN T len e)) (nI (vN T len (tkE T len (tkE T len e)))))) | 5 => (gh, gl, (wkU D (D 0).toNatClampNeg (nI 0) (nI (vN T len e)) (-1))) | 6 => (gh, gl, (wkU D (D 0).toNatClampNeg (nI 1) (nI (vN T len e)) (nI (vN T len (tkE T len e))))) | 7 => (gh, gl, (wkU D (D 0).toNatClampNeg (nI 2) (nI (vN T len e)) (-1))) | 8 => (gh, gl, (wkU D (D 0).toNatClampNeg (nI 3) (-1) (-1))) | 9 => (gh, gl, (lgU D (D 0).toNatClampNeg (nI (vN T len e)) (nI (vN T len (tkE T len e))))) | _ => (gh, gl, D)
def stA (T : Nat → Int32) (len l b e : Nat) (st : TS) : TS :=
  if st.f = 0 then
    (if (fcL (tmA T len l e st.D) b (nuA T len l e)).1 = 0 then ⟨0, st.pl, (teA T len l e st.gh st.gl st.D).1, (teA T len l e st.gh st.gl st.D).2.1, (teA T len l e st.gh st.gl st.D).2.2⟩
     else ⟨(fcL (tmA T len l e st.D) b (nuA T len l e)).1, (fcL (tmA T len l e st.D) b (nuA T len l e)).2, st.gh, st.gl, st.D⟩)
  else st
abbrev lA (T : Nat → Int32) (len of p : Nat) : Int32 := laC T (tkS T len p) (tkB T len p) (tkE T len p) (nI of)
def finA (len of : Nat) (st : TS) : TS := if st.f = 0 ∧ of = 0 ∧ ¬ (st.gh < st.D 0 ∧ st.gl < st.D 1) then ⟨4, len, st.gh, st.gl, st.D⟩ else st
abbrev msA (T : Nat → Int32) (len of p : Nat) : Bool × Nat := ms T len (shA (lA T len of p).toNatClampNeg) (tkE T len p)
/-- the whole reading -/
def rdA (T : Nat → Int32) (len of : Nat) : Nat → Nat → TS → TS
  | 0, _, st => st
  | r + 1, p, st =>
    if tkS T len p = 0 then finA len of st
    else if lA T len of p = -1 then ⟨1, tkB T len p, st.gh, st.gl, st.D⟩
    else if (msA T len of p).1 = true then rdA T len of r (tkE T len (msA T len of p).2) (stA T len (lA T len of p).toNatClampNeg (tkB T len p) (tkE T len p) st)
    else ⟨1, tkB T len (msA T len of p).2, st.gh, st.gl, st.D⟩
