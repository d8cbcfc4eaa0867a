def wI (of : Nat) (D : Nat → Int32) : Prop := (of = 0 → ∃ c nw, c ≤ 10 ∧ nw ≤ 8 ∧ D 1 = nI c ∧ D 2 = nI nw) ∧ (of = 1 → ∃ c, c ≤ 40 ∧ D 0 = nI c) ∧ (of = 2 → ∃ c, c ≤ 8 ∧ D 0 = nI c)
/-- the reference between two lines -/
def RR (of : Nat) (st : TS) (x : Nat × Nat) (gh gl : Int32) (D : Nat → Int32) : Prop :=
  x.1 = st.f ∧ (¬ st.f = 0 → x.2 = st.pl) ∧ (st.f = 0 → D = st.D ∧ (of = 0 → gh = st.gh ∧ gl = st.gl)) ∧ wI of D
def sN : List (Bool × Nat) → Nat × Nat → Nat × Nat
  | [], x => x
  | y :: r, x => sN r (s1 x y.1 (2, y.2))
theorem s1_n {x y : Nat × Nat} {c : Bool} (h : ¬ x.1 = 0) : s1 x c y = x := by unfold s1; rw [if_neg (fun q => h q.1)]
theorem s1_t {x y : Nat × Nat} (h : x.1 = 0) : s1 x true y = y := by unfold s1; rw [if_pos ⟨h, rfl⟩]
theorem sN_n : ∀ (L : List (Bool × Nat)) (x : Nat × Nat), ¬ x.1 = 0 → sN L x = x := by
  intro L
  induction L with
  | nil => intro x _; rfl
  | cons y r ih => intro x h; show sN r (s1 x y.1 (2, y.2)) = x; rw [s1_n h]; exact ih x h
theorem sN_0 : ∀ (L : List (Bool × Nat)) (x : Nat × Nat), x.1 = 0 → sN L x = if (fcN L).1 = 0 then x else fcN L := by
  intro L
  induction L with
  | nil => intro x _; rfl
  | cons y r ih =>
    intro x h
    show sN r (s1 x y.1 (2, y.2)) = _
    by_cases c : y.1 = true
    · rw [c, s1_t h, sN_n r _ (show ¬ 2 = 0 by decide)]
      rw [show fcN (y :: r) = (2, y.2) by show (if y.1 = true then ((2, y.2) : Nat × Nat) else fcN r) = _; rw [if_pos c]]
      rw [if_neg (show ¬ 2 = 0 by decide)]
    · rw [Bool.eq_false_iff.mpr c, s1_f, ih x h]
      rw [show fcN (y :: r) = fcN r by show (if y.1 = true then ((2, y.2) : Nat × Nat) else fcN r) = _; rw [if_neg c]]
theorem sL_0 {L : List (Bool × Nat)} {x : Nat × Nat} {tb : Bool} {b : Nat} (h : x.1 = 0) : sN L (s1 x tb (3, b)) = if (fcL tb b L).1 = 0 then x else fcL tb b L := by
  unfold fcL
  cases tb with
  | true => rw [s1_t h, sN_n _ _ (show ¬ 3 = 0 by decide), if_pos rfl, if_neg (show ¬ 3 = 0 by decide)]
  | false => rw [s1_f, sN_0 L x h, if_neg Bool.false_ne_true]
theorem sL_n {L : List (Bool × Nat)} {x : Nat × Nat} {tb : Bool} {b : Nat} (h : ¬ x.1 = 0) : sN L (s1 x tb (3, b)) = x := by
  rw [s1_n h]; exact sN_n L x h
theorem RR_go {of len l b e : Nat} {st : TS} {x : Nat × Nat} {gh gl gh' gl' : Int32} {D D' T : Nat → Int32} {tb : Bool} {L : List (Bool × Nat)} (h : RR of st x gh gl D) (htb : st.f = 0 → tb = tmA T len l e st.D) (hL : L = nuA T len l e) (hwi : wI of D') (hd : st.f = 0 → D = st.D → (fcL (tmA T len l e st.D) b (nuA T len l e)).1 = 0 → D' = (teA T len l e st.gh st.gl st.D).2.2 ∧ (of = 0 → gh = st.gh ∧ gl = st.gl → gh' = (teA T len l e st.gh st.gl st.D).1 ∧ gl' = (teA T len l e st.gh st.gl st.D).2.1)) : RR of (stA T len l b e st) (sN L (s1 x tb (3, b))) gh' gl' D' := by
  obtain ⟨h1, h2, h3, h4⟩ := h
  unfold stA
  by_cases z : st.f = 0
  · rw [if_pos z, sL_0 (h1.trans z), htb z, hL]
    by_cases f : (fcL (tmA T len l e st.D) b (nuA T len l e)).1 = 0
    · rw [if_pos f, if_pos f]
      obtain ⟨g1, g2⟩ := hd z (h3 z).1 f
      exact ⟨h1.trans z, fun q => absurd rfl q, fun _ => ⟨g1, fun o => g2 o ((h3 z).2 o)⟩, hwi⟩
    · rw [if_neg f, if_neg f]
      exact ⟨rfl, fun _ => rfl, fun q => absurd q f, hwi⟩
  · rw [if_neg z, sL_n (fun q => z (h1.symm.trans q))]
    exact ⟨h1, h2, fun q => absurd q z, hwi⟩
theorem fcN_c {y : Bool × Nat} {r : List (Bool × Nat)} (h : (fcN (y :: r)).1 = 0) : ¬ y.1 = true ∧ (fcN r).1 = 0 := by
  have h : (if y.1 = true then ((2, y.2) : Nat × Nat) else fcN r).1 = 0 := h
  by_cases c : y.1 = true
  · rw [if_pos c] at h; exact absurd h (show ¬ 2 = 0 by decide)
  · rw [if_neg c] at h; exact ⟨c, h⟩
theorem fcL_c {tb : Bool} {b : Nat} {L : List (Bool × Nat)} (h : (fcL tb b L).1 = 0) : ¬ tb = true ∧ (fcN L).1 = 0 := by
  unfold fcL at h
  by_cases c : tb = true
  · rw [if_pos c] at h; exact absurd h (show ¬ 3 = 0 by decide)
  · rw [if_neg c] at h; exact ⟨c, h⟩
theorem wI_0 {D : Nat → Int32} {c nw : Nat} (hc : c ≤ 10) (hw : nw ≤ 8) (h1 : D 1 = nI c) (h2 : D 2 = nI nw) : wI 0 D := ⟨fun _ => ⟨c, nw, hc, hw, h1, h2⟩, fun q => absurd q (by decide), fun q => absurd q (by decide)⟩
theorem wI_1 {D : Nat → Int32} {c : Nat} (hc : c ≤ 40) (h0 : D 0 = nI c) : wI 1 D := ⟨fun q => absurd q (by decide), fun _ => ⟨c, hc, h0⟩, fun q => absurd q (by decide)⟩
theorem wI_2 {D : Nat → Int32} {c : Nat} (hc : c ≤ 8) (h0 : D 0 = nI c) : wI 2 D := ⟨fun q => absurd q (by decide), fun q => absurd q (by decide), fun _ => ⟨c, hc, h0⟩⟩
theorem mt9 {T : Nat → Int32} {len p : Nat} (h : (ms0 T len [false] p).1 = true) : tkS T len p = 2 ∧ ms0 T len [false] p = (true, (tkE T len p)) := by
  have t0 : tkS T len p = 2 := Classical.byContradiction (fun q => by rw [ms0_n0 q] at h; exact Bool.false_ne_true h)
  exact ⟨t0, by rw [ms0_n t0, ms0_e]⟩
theorem mt10 {T : Nat → Int32} {len p : Nat} (h : (ms0 T len [false, true, false] p).1 = true) : tkS T len p = 2 ∧ ¬ kI T len (tkE T len p) = -1 ∧ tkS T len (tkE T len (tkE T len p)) = 2 ∧ ms0 T len [false, true, false] p = (true, (tkE T len (tkE T len (tkE T len p)))) := by
  have t0 : tkS T len p = 2 := Classical.byContradiction (fun q => by rw [ms0_n0 q] at h; exact Bool.false_ne_true h)
  have t1 : ¬ kI T len (tkE T len p) = -1 := fun q => by rw [ms0_n t0, ms0_k0 q] at h; exact Bool.false_ne_true h
  have t2 : tkS T len (tkE T len (tkE T len p)) = 2 := Classical.byContradiction (fun q => by rw [ms0_n t0, ms0_k t1, ms0_n0 q] at h; exact Bool.false_ne_true h)
  exact ⟨t0, t1, t2, by rw [ms0_n t0, ms0_k t1, ms0_n t2, ms0_e]⟩
theorem mt11 {T : Nat → Int32} {len p : Nat} (h : (ms0 T len [true, true, false] p).1 = true) : ¬ kI T len p = -1 ∧ ¬ kI T len (tkE T len p) = -1 ∧ tkS T len (tkE T len (tkE T len p)) = 2 ∧ ms0 T len [true, true, false] p = (true, (tkE T len (tkE T len (tkE T len p)))) := by
  have t0 : ¬ kI T len p = -1 := fun q => by rw [ms0_k0 q] at h; exact Bool.false_ne_true h
  have t1 : ¬ kI T len (tkE T len p) = -1 := fun q => by rw [ms0_k t0, ms0_k0 q] at h; exact Bool.false_ne_true h
  have t2 : tkS T len (tkE T len (tkE T len p)) = 2 := Classical.byContradiction (fun q => by rw [ms0_k t0, ms0_k t1, ms0_n0 q] at h; exact Bool.false_ne_true h)
  exact ⟨t0, t1, t2, by rw [ms0_k t0, ms0_k t1, ms0_n t2, ms0_e]⟩
theorem mt12 {T : Nat → Int32} {len p : Nat} (h : (ms0 T len [false, false, false] p).1 = true) : tkS T len p = 2 ∧ tkS T len (tkE T len p) = 2 ∧ tkS T len (tkE T len (tkE T len p)) = 2 ∧ ms0 T len [false, false, false] p = (true, (tkE T len (tkE T len (tkE T len p)))) := by
  have t0 : tkS T len p = 2 := Classical.byContradiction (fun q => by rw [ms0_n0 q] at h; exact Bool.false_ne_true h)
  have t1 : tkS T len (tkE T len p) = 2 := Classical.byContradiction (fun q => by rw [ms0_n t0, ms0_n0 q] at h; exact Bool.false_ne_true h)
  have t2 : tkS T len (tkE T len (tkE T len p)) = 2 := Classical.byContradiction (fun q => by rw [ms0_n t0, ms0_n t1, ms0_n0 q] at h; exact Bool.false_ne_true h)
  exact ⟨t0, t1, t2, by rw [ms0_n t0, ms0_n t1, ms0_n t2, ms0_e]⟩
theorem mt13 {T : Nat → Int32} {len p : Nat} (h : (ms0 T len [] p).1 = true) : ms0 T len [] p = (true, p) := by
  rfl
theorem mt14 {T : Nat → Int32} {len p : Nat} (h : (ms0 T len [false, false] p).1 = true) : tkS T len p = 2 ∧ tkS T len (tkE T len p) = 2 ∧ ms0 T len [false, false] p = (true, (tkE T len (tkE T len p))) := by
  have t0 : tkS T len p = 2 := Classical.byContradiction (fun q => by rw [ms0_n0 q] at h; exact Bool.false_ne_true h)
  have t1 : tkS T len (tkE T len p) = 2 := Classical.byContradiction (fun q => by rw [ms0_n t0, ms0_n0 q] at h; exact Bool.false_ne_true h)
  exact ⟨t0, t1, by rw [ms0_n t0, ms0_n t1, ms0_e]⟩
