def IV3 (of : Nat) (gh gl : Int32) (D : Nat → Int32) : Prop := (of = 0 → ∃ nh nl nw, OKr D gh gl nh nl nw) ∧ (of = 1 → ∃ c, OKw D c) ∧ (of = 2 → ∃ c, OKg D c)
def IV (of : Nat) (st : TS) : Prop := st.f = 0 → IV3 of st.gh st.gl st.D
theorem iv_go {of len l b e : Nat} {T : Nat → Int32} {st : TS} (h : st.f = 0 → (fcL (tmA T len l e st.D) b (nuA T len l e)).1 = 0 → IV3 of (teA T len l e st.gh st.gl st.D).1 (teA T len l e st.gh st.gl st.D).2.1 (teA T len l e st.gh st.gl st.D).2.2) : IV of (stA T len l b e st) := by
  unfold IV stA
  by_cases z : st.f = 0
  · rw [if_pos z]
    by_cases f : (fcL (tmA T len l e st.D) b (nuA T len l e)).1 = 0
    · rw [if_pos f]; exact fun _ => h z f
    · rw [if_neg f]; exact fun q => absurd q f
  · rw [if_neg z]; exact fun q => absurd q z
theorem iv0 {gh gl : Int32} {D : Nat → Int32} {nh nl nw : Nat} (h : OKr D gh gl nh nl nw) : IV3 0 gh gl D := ⟨fun _ => ⟨nh, nl, nw, h⟩, fun q => absurd q (by decide), fun q => absurd q (by decide)⟩
theorem iv1 {gh gl : Int32} {D : Nat → Int32} {c : Nat} (h : OKw D c) : IV3 1 gh gl D := ⟨fun q => absurd q (by decide), fun _ => ⟨c, h⟩, fun q => absurd q (by decide)⟩
theorem iv2 {gh gl : Int32} {D : Nat → Int32} {c : Nat} (h : OKg D c) : IV3 2 gh gl D := ⟨fun q => absurd q (by decide), fun q => absurd q (by decide), fun _ => ⟨c, h⟩⟩
theorem iv_0 {T : Nat → Int32} {len e b : Nat} {st : TS} (q0 : e ≤ len) (t0 : tkS T len e = 2) (h : IV 0 st) : IV 0 (stA T len 0 b e st) := by
  have q1 : (tkE T len e) ≤ len := (tkE_le (T := T) q0).2
  have v0 := vN_of q0 t0
  refine iv_go (fun z f => ?_)
  obtain ⟨ftb, f⟩ := fcL_c f
  have f0 := (fcN_c f).1
  replace f := (fcN_c f).2
  obtain ⟨nh, nl, nw, H⟩ := (h z).1 rfl
  have h10 := H.l10
  have h8 := H.w8
  have g0 := bd_le f0
  exact iv0 (ok_0 H g0.1 g0.2)
theorem iv_1 {T : Nat → Int32} {len e b : Nat} {st : TS} (q0 : e ≤ len) (t0 : tkS T len e = 2) (t1 : tkS T len (tkE T len e) = 2) (h : IV 0 st) : IV 0 (stA T len 1 b e st) := by
  have q1 : (tkE T len e) ≤ len := (tkE_le (T := T) q0).2
  have v0 := vN_of q0 t0
  have q2 : (tkE T len (tkE T len e)) ≤ len := (tkE_le (T := T) q1).2
  have v1 := vN_of q1 t1
  refine iv_go (fun z f => ?_)
  obtain ⟨ftb, f⟩ := fcL_c f
  have f0 := (fcN_c f).1
  replace f := (fcN_c f).2
  have f1 := (fcN_c f).1
  replace f := (fcN_c f).2
  obtain ⟨nh, nl, nw, H⟩ := (h z).1 rfl
  have h10 := H.l10
  have h8 := H.w8
  have g0 := bd_le f0
  have g1 := bd_le f1
  exact iv0 (ok_1 H g0.2 g1.2)
theorem iv_2 {T : Nat → Int32} {len e b : Nat} {st : TS} (q0 : e ≤ len) (t0 : tkS T len e = 2) (t1 : ¬ kI T len (tkE T len e) = -1) (t2 : tkS T len (tkE T len (tkE T len e)) = 2) (h : IV 0 st) : IV 0 (stA T len 2 b e st) := by
  have q1 : (tkE T len e) ≤ len := (tkE_le (T := T) q0).2
  have v0 := vN_of q0 t0
  have q2 : (tkE T len (tkE T len e)) ≤ len := (tkE_le (T := T) q1).2
  have w1 := kN_of t1
  have q3 : (tkE T len (tkE T len (tkE T len e))) ≤ len := (tkE_le (T := T) q2).2
  have v2 := vN_of q2 t2
  refine iv_go (fun z f => ?_)
  obtain ⟨ftb, f⟩ := fcL_c f
  have f0 := (fcN_c f).1
  replace f := (fcN_c f).2
  have f1 := (fcN_c f).1
  replace f := (fcN_c f).2
  obtain ⟨nh, nl, nw, H⟩ := (h z).1 rfl
  have h10 := H.l10
  have h8 := H.w8
  have g0 := bd_le f0
  have g1 := bd_le f1
  have hcl : (st.D 1).toNatClampNeg = nl := by rw [H.d1]; exact nI_clamp (by omega)
  have hc9 : nl < 10 := by
    rcases Nat.lt_or_ge nl 10 with q | q
    · exact q
    · exact absurd (decide_eq_true (show st.D 1 = nI 10 by rw [H.d1]; congr 1; omega)) ftb
  show IV3 0 (mxI st.gh (vN T len e)) st.gl (ltU st.D (st.D 1).toNatClampNeg (nI (vN T len e)) (nI (kN T len (tkE T len e))) (nI (vN T len (tkE T len (tkE T len e)))))
  rw [hcl]
  exact iv0 (ok_2 H hc9 g0.2 w1.1 g1.1 g1.2)
theorem iv_3 {T : Nat → Int32} {len e b : Nat} {st : TS} (q0 : e ≤ len) (t0 : ¬ kI T len e = -1) (t1 : ¬ kI T len (tkE T len e) = -1) (t2 : tkS T len (tkE T len (tkE T len e)) = 2) (h : IV 0 st) : IV 0 (stA T len 3 b e st) := by
  have q1 : (tkE T len e) ≤ len := (tkE_le (T := T) q0).2
  have w0 := kN_of t0
  have q2 : (tkE T len (tkE T len e)) ≤ len := (tkE_le (T := T) q1).2
  have w1 := kN_of t1
  have q3 : (tkE T len (tkE T len (tkE T len e))) ≤ len := (tkE_le (T := T) q2).2
  have v2 := vN_of q2 t2
  refine iv_go (fun z f => ?_)
  obtain ⟨ftb, f⟩ := fcL_c f
  have f0 := (fcN_c f).1
  replace f := (fcN_c f).2
  obtain ⟨nh, nl, nw, H⟩ := (h z).1 rfl
  have h10 := H.l10
  have h8 := H.w8
  have g0 := bd_le f0
  show IV3 0 st.gh st.gl (lawU st.D (4 * (kN T len e) + (kN T len (tkE T len e))) (nI (vN T len (tkE T len (tkE T len e)))))
  unfold lawU
  by_cases nn : st.D (59 + (4 * (kN T len e) + (kN T len (tkE T len e)))) = -1
  · have h9 : nw < 8 := by
      rcases Nat.lt_or_ge nw 8 with q | q
      · exact q
      · exact absurd (decide_eq_true (show st.D 2 = nI 8 ∧ st.D (59 + (4 * (kN T len e) + (kN T len (tkE T len e)))) = -1 from ⟨by rw [H.d2]; congr 1; omega, nn⟩)) ftb
    rw [if_pos nn, H.d2, show nI nw + nI 1 = nI (nw + 1) from (Int32.ofNat_add nw 1).symm]
    exact iv0 (ok_3n H (by omega) g0.2 h9)
  · rw [if_neg nn]
    exact iv0 (ok_3o H (by omega) g0.2 nn)
theorem iv_4 {T : Nat → Int32} {len e b : Nat} {st : TS} (q0 : e ≤ len) (t0 : tkS T len e = 2) (t1 : tkS T len (tkE T len e) = 2) (t2 : tkS T len (tkE T len (tkE T len e)) = 2) (h : IV 0 st) : IV 0 (stA T len 4 b e st) := by
  have q1 : (tkE T len e) ≤ len := (tkE_le (T := T) q0).2
  have v0 := vN_of q0 t0
  have q2 : (tkE T len (tkE T len e)) ≤ len := (tkE_le (T := T) q1).2
  have v1 := vN_of q1 t1
  have q3 : (tkE T len (tkE T len (tkE T len e))) ≤ len := (tkE_le (T := T) q2).2
  have v2 := vN_of q2 t2
  refine iv_go (fun z f => ?_)
  obtain ⟨ftb, f⟩ := fcL_c f
  have f0 := (fcN_c f).1
  replace f := (fcN_c f).2
  have f1 := (fcN_c f).1
  replace f := (fcN_c f).2
  have f2 := (fcN_c f).1
  replace f := (fcN_c f).2
  obtain ⟨nh, nl, nw, H⟩ := (h z).1 rfl
  have h10 := H.l10
  have h8 := H.w8
  have g0 := bd_le f0
  have g1 := bd_le (fun q => f1 (by show (bdB (vN T len (tkE T len e)) 0 9 || _) = true; rw [q, Bool.true_or]))
  have gn : (vN T len (tkE T len e)) ≠ (vN T len e) := fun q => f1 (by show (_ || decide ((vN T len (tkE T len e)) = (vN T len e))) = true; rw [decide_eq_true q, Bool.or_true])
  have g2 := bd_le f2
  exact iv0 (ok_4 H g0.2 g1.2 gn g2.2)
theorem iv_5 {T : Nat → Int32} {len e b : Nat} {st : TS} (q0 : e ≤ len) (t0 : tkS T len e = 2) (h : IV 1 st) : IV 1 (stA T len 5 b e st) := by
  have q1 : (tkE T len e) ≤ len := (tkE_le (T := T) q0).2
  have v0 := vN_of q0 t0
  refine iv_go (fun z f => ?_)
  obtain ⟨ftb, f⟩ := fcL_c f
  have f0 := (fcN_c f).1
  replace f := (fcN_c f).2
  obtain ⟨c, H⟩ := (h z).2.1 rfl
  have h10 := H.c40
  have hcl : (st.D 0).toNatClampNeg = c := by rw [H.d0]; exact nI_clamp (by omega)
  have hc9 : c < 40 := by
    rcases Nat.lt_or_ge c 40 with q | q
    · exact q
    · exact absurd (decide_eq_true (show st.D 0 = nI 40 by rw [H.d0]; congr 1; omega)) ftb
  have g0 := bd_le f0
  show IV3 1 st.gh st.gl (wkU st.D (st.D 0).toNatClampNeg (nI 0) (nI (vN T len e)) (-1))
  rw [hcl]
  exact iv1 (ok_w H hc9 (by decide) (Or.inr ⟨by decide, ⟨_, by omega, rfl⟩, Or.inr ⟨by decide, rfl⟩⟩))
theorem iv_7 {T : Nat → Int32} {len e b : Nat} {st : TS} (q0 : e ≤ len) (t0 : tkS T len e = 2) (h : IV 1 st) : IV 1 (stA T len 7 b e st) := by
  have q1 : (tkE T len e) ≤ len := (tkE_le (T := T) q0).2
  have v0 := vN_of q0 t0
  refine iv_go (fun z f => ?_)
  obtain ⟨ftb, f⟩ := fcL_c f
  have f0 := (fcN_c f).1
  replace f := (fcN_c f).2
  obtain ⟨c, H⟩ := (h z).2.1 rfl
  have h10 := H.c40
  have hcl : (st.D 0).toNatClampNeg = c := by rw [H.d0]; exact nI_clamp (by omega)
  have hc9 : c < 40 := by
    rcases Nat.lt_or_ge c 40 with q | q
    · exact q
    · exact absurd (decide_eq_true (show st.D 0 = nI 40 by rw [H.d0]; congr 1; omega)) ftb
  have g0 := bd_le f0
  show IV3 1 st.gh st.gl (wkU st.D (st.D 0).toNatClampNeg (nI 2) (nI (vN T len e)) (-1))
  rw [hcl]
  exact iv1 (ok_w H hc9 (by decide) (Or.inr ⟨by decide, ⟨_, by omega, rfl⟩, Or.inr ⟨by decide, rfl⟩⟩))
theorem iv_6 {T : Nat → Int32} {len e b : Nat} {st : TS} (q0 : e ≤ len) (t0 : tkS T len e = 2) (t1 : tkS T len (tkE T len e) = 2) (h : IV 1 st) : IV 1 (stA T len 6 b e st) := by
  have q1 : (tkE T len e) ≤ len := (tkE_le (T := T) q0).2
  have v0 := vN_of q0 t0
  have q2 : (tkE T len (tkE T len e)) ≤ len := (tkE_le (T := T) q1).2
  have v1 := vN_of q1 t1
  refine iv_go (fun z f => ?_)
  obtain ⟨ftb, f⟩ := fcL_c f
  have f0 := (fcN_c f).1
  replace f := (fcN_c f).2
  have f1 := (fcN_c f).1
  replace f := (fcN_c f).2
  obtain ⟨c, H⟩ := (h z).2.1 rfl
  have h10 := H.c40
  have hcl : (st.D 0).toNatClampNeg = c := by rw [H.d0]; exact nI_clamp (by omega)
  have hc9 : c < 40 := by
    rcases Nat.lt_or_ge c 40 with q | q
    · exact q
    · exact absurd (decide_eq_true (show st.D 0 = nI 40 by rw [H.d0]; congr 1; omega)) ftb
  have g0 := bd_le f0
  have g1 := bd_le f1
  show IV3 1 st.gh st.gl (wkU st.D (st.D 0).toNatClampNeg (nI 1) (nI (vN T len e)) (nI (vN T len (tkE T len e))))
  rw [hcl]
  exact iv1 (ok_w H hc9 (by decide) (Or.inr ⟨by decide, ⟨_, by omega, rfl⟩, Or.inl ⟨rfl, _, by omega, rfl⟩⟩))
theorem iv_8 {T : Nat → Int32} {len e b : Nat} {st : TS} (q0 : e ≤ len)  (h : IV 1 st) : IV 1 (stA T len 8 b e st) := by
  refine iv_go (fun z f => ?_)
  obtain ⟨ftb, f⟩ := fcL_c f
  obtain ⟨c, H⟩ := (h z).2.1 rfl
  have h10 := H.c40
  have hcl : (st.D 0).toNatClampNeg = c := by rw [H.d0]; exact nI_clamp (by omega)
  have hc9 : c < 40 := by
    rcases Nat.lt_or_ge c 40 with q | q
    · exact q
    · exact absurd (decide_eq_true (show st.D 0 = nI 40 by rw [H.d0]; congr 1; omega)) ftb
  show IV3 1 st.gh st.gl (wkU st.D (st.D 0).toNatClampNeg (nI 3) (-1) (-1))
  rw [hcl]
  exact iv1 (ok_w H hc9 (by decide) (Or.inl ⟨rfl, rfl, rfl⟩))
theorem iv_9 {T : Nat → Int32} {len e b : Nat} {st : TS} (q0 : e ≤ len) (t0 : tkS T len e = 2) (t1 : tkS T len (tkE T len e) = 2) (h : IV 2 st) : IV 2 (stA T len 9 b e st) := by
  have q1 : (tkE T len e) ≤ len := (tkE_le (T := T) q0).2
  have v0 := vN_of q0 t0
  have q2 : (tkE T len (tkE T len e)) ≤ len := (tkE_le (T := T) q1).2
  have v1 := vN_of q1 t1
  refine iv_go (fun z f => ?_)
  obtain ⟨ftb, f⟩ := fcL_c f
  have f0 := (fcN_c f).1
  replace f := (fcN_c f).2
  have f1 := (fcN_c f).1
  replace f := (fcN_c f).2
  obtain ⟨c, H⟩ := (h z).2.2 rfl
  have h10 := H.c8
  have hcl : (st.D 0).toNatClampNeg = c := by rw [H.d0]; exact nI_clamp (by omega)
  have hc9 : c < 8 := by
    rcases Nat.lt_or_ge c 8 with q | q
    · exact q
    · exact absurd (decide_eq_true (show st.D 0 = nI 8 by rw [H.d0]; congr 1; omega)) ftb
  have g0 := bd_le f0
  have g1 := bd_le f1
  show IV3 2 st.gh st.gl (lgU st.D (st.D 0).toNatClampNeg (nI (vN T len e)) (nI (vN T len (tkE T len e))))
  rw [hcl]
  exact iv2 (ok_g H hc9 (by omega) g1.2)
theorem ms0_t {T : Nat → Int32} {len p : Nat} {sh : List Bool} (h : (ms T len sh p).1 = true) : (ms0 T len sh p).1 = true := by
  rw [ms_ms0] at h
  by_cases c : (ms0 T len sh p).1 = true
  · exact c
  · rw [if_neg c] at h; exact absurd h Bool.false_ne_true
theorem iv_st {T : Nat → Int32} {len of p : Nat} (hof : of < 3) {st : TS} (hp : p ≤ len) (h1 : ¬ lA T len of p = -1) (h2 : (msA T len of p).1 = true) (h : IV of st) : IV of (stA T len (lN9 T len of p) (tkB T len p) (tkE T len p) st) := by
  have he := tkE_le (T := T) hp
  have go : ∀ l, l < 10 → lA T len of p = nI l → lN9 T len of p = l ∧ (ms0 T len (shA l) (tkE T len p)).1 = true := fun l hl e => by
    have ec : lN9 T len of p = l := by unfold lN9; rw [e]; exact nI_clamp (by omega)
    refine ⟨ec, ?_⟩
    have q := ms0_t h2
    rw [show (lA T len of p).toNatClampNeg = l from ec] at q; exact q
  rcases (show of = 0 ∨ of = 1 ∨ of = 2 by omega) with o | o | o
  · subst o
    rcases la_0 (T := T) (s := tkS T len p) (b := tkB T len p) (e := tkE T len p) with c | ⟨l, hl, c⟩
    · exact absurd c h1
    · rcases (show l = 0 ∨ l = 1 ∨ l = 2 ∨ l = 3 ∨ l = 4 by omega) with e | e | e | e | e
      · subst e; obtain ⟨e1, m1⟩ := go 0 (by decide) c
        rw [e1]
        obtain ⟨t0, _⟩ := mt9 m1
        exact iv_0 he.2 t0 h
      · subst e; obtain ⟨e1, m1⟩ := go 1 (by decide) c
        rw [e1]
        obtain ⟨t0, t1, _⟩ := mt14 m1
        exact iv_1 he.2 t0 t1 h
      · subst e; obtain ⟨e1, m1⟩ := go 2 (by decide) c
        rw [e1]
        obtain ⟨t0, t1, t2, _⟩ := mt10 m1
        exact iv_2 he.2 t0 t1 t2 h
      · subst e; obtain ⟨e1, m1⟩ := go 3 (by decide) c
        rw [e1]
        obtain ⟨t0, t1, t2, _⟩ := mt11 m1
        exact iv_3 he.2 t0 t1 t2 h
      · subst e; obtain ⟨e1, m1⟩ := go 4 (by decide) c
        rw [e1]
        obtain ⟨t0, t1, t2, _⟩ := mt12 m1
        exact iv_4 he.2 t0 t1 t2 h
  · subst o
    rcases la_1 (T := T) (s := tkS T len p) (b := tkB T len p) (e := tkE T len p) with c | ⟨l, hl0, hl, c⟩
    · exact absurd c h1
    · rcases (show l = 5 ∨ l = 6 ∨ l = 7 ∨ l = 8 by omega) with e | e | e | e
      · subst e; obtain ⟨e1, m1⟩ := go 5 (by decide) c
        rw [e1]
        obtain ⟨t0, _⟩ := mt9 m1
        exact iv_5 he.2 t0 h
      · subst e; obtain ⟨e1, m1⟩ := go 6 (by decide) c
        rw [e1]
        obtain ⟨t0, t1, _⟩ := mt14 m1
        exact iv_6 he.2 t0 t1 h
      · subst e; obtain ⟨e1, m1⟩ := go 7 (by decide) c
        rw [e1]
        obtain ⟨t0, _⟩ := mt9 m1
        exact iv_7 he.2 t0 h
      · subst e; obtain ⟨e1, m1⟩ := go 8 (by decide) c
        rw [e1]
        exact iv_8 he.2  h
  · subst o
    rcases la_2 (T := T) (s := tkS T len p) (b := tkB T len p) (e := tkE T len p) with c | c
    · exact absurd c h1
    · obtain ⟨e1, m1⟩ := go 9 (by decide) c
      rw [e1]
      obtain ⟨t0, t1, _⟩ := mt14 m1
      exact iv_9 he.2 t0 t1 h
theorem rd_iv {T : Nat → Int32} {len of : Nat} (hof : of < 3) : ∀ r p (st : TS), p ≤ len → len + 1 ≤ p + r → IV of st → IV of (rdA T len of r p st) ∧ ((rdA T len of r p st).f = 0 → of = 0 → (rdA T len of r p st).gh < (rdA T len of r p st).D 0 ∧ (rdA T len of r p st).gl < (rdA T len of r p st).D 1) := by
  intro r
  induction r with
  | zero => intro p st h1 h2; exact absurd h2 (by omega)
  | succ r ih =>
    intro p st hp hr h
    unfold rdA
    by_cases c0 : tkS T len p = 0
    · rw [if_pos c0]
      unfold finA
      by_cases c : st.f = 0 ∧ of = 0 ∧ ¬ (st.gh < st.D 0 ∧ st.gl < st.D 1)
      · rw [if_pos c]; exact ⟨fun q => absurd (show (4 : Nat) = 0 from q) (by decide), fun q => absurd (show (4 : Nat) = 0 from q) (by decide)⟩
      · rw [if_neg c]; exact ⟨h, fun z o => Classical.byContradiction (fun q => c ⟨z, o, q⟩)⟩
    · rw [if_neg c0]
      by_cases c1 : lA T len of p = -1
      · rw [if_pos c1]; exact ⟨fun q => absurd (show (1 : Nat) = 0 from q) (by decide), fun q => absurd (show (1 : Nat) = 0 from q) (by decide)⟩
      · rw [if_neg c1]
        by_cases c2 : (msA T len of p).1 = true
        · rw [if_pos c2]
          have hm := ms_le (T := T) (shA (lA T len of p).toNatClampNeg) (tkE T len p) (tkE_le hp).2
          have h3 := tk_on hp c0
          have h4 := ms_on (T := T) hm.2
          have h5 : len + 1 ≤ tkE T len (msA T len of p).2 + r := by
            show len + 1 ≤ tkE T len (ms T len (shA (lA T len of p).toNatClampNeg) (tkE T len p)).2 + r
            omega
          exact ih _ _ (tkE_le hm.2).2 h5 (iv_st hof hp c1 c2 h)
        · rw [if_neg c2]; exact ⟨fun q => absurd (show (1 : Nat) = 0 from q) (by decide), fun q => absurd (show (1 : Nat) = 0 from q) (by decide)⟩
def OKo (D : Nat → Int32) (nh nl nw : Nat) : Prop := (1 ≤ nh) ∧ (nh ≤ 6) ∧ (nl ≤ 10) ∧ (nw ≤ 8) ∧ (D 0 = nI nh) ∧ (D 1 = nI nl) ∧ (D 2 = nI nw) ∧ (∀ h, h < 6 → ∃ m, m ≤ 50 ∧ D (3 + h) = nI m) ∧ (∀ l, l < 10 → ∃ a, a < 6 ∧ D (9 + l) = nI a ∧ (l < nl → a < nh)) ∧ (∀ l, l < 10 → ∃ k, k < 4 ∧ D (19 + l) = nI k) ∧ (∀ l, l < 10 → ∃ f, f ≤ 9 ∧ D (29 + l) = nI f ∧ (l < nl → 1 ≤ f)) ∧ (∀ l, l < 10 → (D (39 + l) = -1 ∧ D (49 + l) = -1) ∨ ∃ a s, l < nl ∧ a < nl ∧ a ≠ l ∧ s ≤ 3 ∧ D (39 + l) = nI a ∧ D (49 + l) = nI s) ∧ (∀ j, j < 16 → D (59 + j) = -1 ∨ ∃ t, t ≤ 9 ∧ D (59 + j) = nI t) ∧ (nw = 0 ↔ ∀ j, j < 16 → D (59 + j) = -1)
theorem OKo.mk {D : Nat → Int32} {nh nl nw : Nat} (nh1_9 : 1 ≤ nh) (nh6_9 : nh ≤ 6) (l10_9 : nl ≤ 10) (w8_9 : nw ≤ 8) (d0_9 : D 0 = nI nh) (d1_9 : D 1 = nI nl) (d2_9 : D 2 = nI nw) (mo_9 : ∀ h, h < 6 → ∃ m, m ≤ 50 ∧ D (3 + h) = nI m) (ho_9 : ∀ l, l < 10 → ∃ a, a < 6 ∧ D (9 + l) = nI a ∧ (l < nl → a < nh)) (ki_9 : ∀ l, l < 10 → ∃ k, k < 4 ∧ D (19 + l) = nI k) (fo_9 : ∀ l, l < 10 → ∃ f, f ≤ 9 ∧ D (29 + l) = nI f ∧ (l < nl → 1 ≤ f)) (mi_9 : ∀ l, l < 10 → (D (39 + l) = -1 ∧ D (49 + l) = -1) ∨ ∃ a s, l < nl ∧ a < nl ∧ a ≠ l ∧ s ≤ 3 ∧ D (39 + l) = nI a ∧ D (49 + l) = nI s) (ti_9 : ∀ j, j < 16 → D (59 + j) = -1 ∨ ∃ t, t ≤ 9 ∧ D (59 + j) = nI t) (lw_9 : nw = 0 ↔ ∀ j, j < 16 → D (59 + j) = -1) : OKo D nh nl nw := ⟨nh1_9, nh6_9, l10_9, w8_9, d0_9, d1_9, d2_9, mo_9, ho_9, ki_9, fo_9, mi_9, ti_9, lw_9⟩
theorem OKo.nh1 {D : Nat → Int32} {nh nl nw : Nat} (h : OKo D nh nl nw) : 1 ≤ nh := h.1
theorem OKo.nh6 {D : Nat → Int32} {nh nl nw : Nat} (h : OKo D nh nl nw) : nh ≤ 6 := h.2.1
theorem OKo.l10 {D : Nat → Int32} {nh nl nw : Nat} (h : OKo D nh nl nw) : nl ≤ 10 := h.2.2.1
theorem OKo.w8 {D : Nat → Int32} {nh nl nw : Nat} (h : OKo D nh nl nw) : nw ≤ 8 := h.2.2.2.1
theorem OKo.d0 {D : Nat → Int32} {nh nl nw : Nat} (h : OKo D nh nl nw) : D 0 = nI nh := h.2.2.2.2.1
theorem OKo.d1 {D : Nat → Int32} {nh nl nw : Nat} (h : OKo D nh nl nw) : D 1 = nI nl := h.2.2.2.2.2.1
theorem OKo.d2 {D : Nat → Int32} {nh nl nw : Nat} (h : OKo D nh nl nw) : D 2 = nI nw := h.2.2.2.2.2.2.1
theorem OKo.mo {D : Nat → Int32} {nh nl nw : Nat} (h : OKo D nh nl nw) : ∀ h, h < 6 → ∃ m, m ≤ 50 ∧ D (3 + h) = nI m := h.2.2.2.2.2.2.2.1
theorem OKo.ho {D : Nat → Int32} {nh nl nw : Nat} (h : OKo D nh nl nw) : ∀ l, l < 10 → ∃ a, a < 6 ∧ D (9 + l) = nI a ∧ (l < nl → a < nh) := h.2.2.2.2.2.2.2.2.1
theorem OKo.ki {D : Nat → Int32} {nh nl nw : Nat} (h : OKo D nh nl nw) : ∀ l, l < 10 → ∃ k, k < 4 ∧ D (19 + l) = nI k := h.2.2.2.2.2.2.2.2.2.1
theorem OKo.fo {D : Nat → Int32} {nh nl nw : Nat} (h : OKo D nh nl nw) : ∀ l, l < 10 → ∃ f, f ≤ 9 ∧ D (29 + l) = nI f ∧ (l < nl → 1 ≤ f) := h.2.2.2.2.2.2.2.2.2.2.1
theorem OKo.mi {D : Nat → Int32} {nh nl nw : Nat} (h : OKo D nh nl nw) : ∀ l, l < 10 → (D (39 + l) = -1 ∧ D (49 + l) = -1) ∨ ∃ a s, l < nl ∧ a < nl ∧ a ≠ l ∧ s ≤ 3 ∧ D (39 + l) = nI a ∧ D (49 + l) = nI s := h.2.2.2.2.2.2.2.2.2.2.2.1
theorem OKo.ti {D : Nat → Int32} {nh nl nw : Nat} (h : OKo D nh nl nw) : ∀ j, j < 16 → D (59 + j) = -1 ∨ ∃ t, t ≤ 9 ∧ D (59 + j) = nI t := h.2.2.2.2.2.2.2.2.2.2.2.2.1
theorem OKo.lw {D : Nat → Int32} {nh nl nw : Nat} (h : OKo D nh nl nw) : nw = 0 ↔ ∀ j, j < 16 → D (59 + j) = -1 := h.2.2.2.2.2.2.2.2.2.2.2.2.2
theorem OKo_r {D : Nat → Int32} {gh gl : Int32} {nh nl nw : Nat} (H : OKr D gh gl nh nl nw) (h1 : gh < D 0) (h2 : gl < D 1) : OKo D nh nl nw := by
  have h10 := H.l10
  have h6 := H.nh6
  rw [H.d0] at h1
  rw [H.d1] at h2
  have lt : ∀ {g : Int32} {a b : Nat}, a < 100 → b < 100 → g < nI b → ¬ g < nI a → a < b := fun {g a b} ha hb q r => by
    rcases Nat.lt_or_ge a b with c | c
    · exact c
    · exact absurd (Int32.lt_of_lt_of_le q (Int32.not_lt.mp (fun w => absurd ((nI_ltI (by omega) (by omega)).mp w) (by omega)))) r
  refine OKo.mk H.nh1 H.nh6 H.l10 H.w8 H.d0 H.d1 H.d2 H.mo ?_ H.ki H.fo ?_ H.ti H.lw
  · intro l hl
    obtain ⟨a, ha, e, q⟩ := H.ho l hl
    exact ⟨a, ha, e, fun z => lt (by omega) (by omega) h1 (q z)⟩
  · intro l hl
    rcases H.mi l hl with e | ⟨a, s, ha, hal, hs, e1, e2, q1, q2⟩
    · exact Or.inl e
    · exact Or.inr ⟨a, s, lt (by omega) (by omega) h2 q1, lt (by omega) (by omega) h2 q2, hal, hs, e1, e2⟩
theorem Di_iv {D : Nat → Int32} {of : Nat} (hof : of < 3) : IV of (0, 0, -1, -1, DiA D of) := by
  intro _
  rcases (show of = 0 ∨ of = 1 ∨ of = 2 by omega) with h | h | h
  · subst h
    have e := fun j hj => Di_ok (D := D) (of := 0) j hj
    refine iv0 (nh := 3) (nl := 0) (nw := 0) (OKr.mk (by decide) (by decide) (by decide) (by decide) (e 0 (by decide)) (e 1 (by decide)) (e 2 (by decide)) ?_ ?_ ?_ ?_ ?_ ?_ ?_)
    · intro h hh; exact ⟨10, by decide, (e (3 + h) (by omega)).trans (by unfold D0; rw [if_pos rfl, if_neg (by omega), if_neg (by omega), if_pos (by omega)])⟩
    · intro l hl; exact ⟨0, by decide, (e (9 + l) (by omega)).trans (by unfold D0; rw [if_pos rfl, if_neg (by omega), if_neg (by omega), if_neg (by omega), if_pos (by omega)]; rfl), fun q => absurd q (by omega)⟩
    · intro l hl; exact ⟨0, by decide, (e (19 + l) (by omega)).trans (by unfold D0; rw [if_pos rfl, if_neg (by omega), if_neg (by omega), if_neg (by omega), if_pos (by omega)]; rfl)⟩
    · intro l hl; exact ⟨0, by decide, (e (29 + l) (by omega)).trans (by unfold D0; rw [if_pos rfl, if_neg (by omega), if_neg (by omega), if_neg (by omega), if_pos (by omega)]; rfl), fun q => absurd q (by omega)⟩
    · intro l hl; exact Or.inl ⟨(e (39 + l) (by omega)).trans (by unfold D0; rw [if_pos rfl, if_neg (by omega), if_neg (by omega), if_neg (by omega), if_neg (by omega)]), (e (49 + l) (by omega)).trans (by unfold D0; rw [if_pos rfl, if_neg (by omega), if_neg (by omega), if_neg (by omega), if_neg (by omega)])⟩
    · intro j hj; exact Or.inl ((e (59 + j) (by omega)).trans (by unfold D0; rw [if_pos rfl, if_neg (by omega), if_neg (by omega), if_neg (by omega), if_neg (by omega)]))
    · exact ⟨fun _ j hj => (e (59 + j) (by omega)).trans (by unfold D0; rw [if_pos rfl, if_neg (by omega), if_neg (by omega), if_neg (by omega), if_neg (by omega)]), fun _ => rfl⟩
  · subst h; exact iv1 (c := 0) (OKw.mk (by decide) (Di_ok (D := D) (of := 1) 0 (by decide)) (fun k hk => absurd hk (by omega)))
  · subst h; exact iv2 (c := 0) (OKg.mk (by decide) (Di_ok (D := D) (of := 2) 0 (by decide)) (fun k hk => absurd hk (by omega)))
/-- what a good text leaves is well formed -/
theorem rd_ok {T D : Nat → Int32} {len of : Nat} (hof : of < 3) (hz : (rdA T len of (len + 1) 0 (0, 0, -1, -1, DiA D of)).f = 0) : (of = 0 → ∃ nh nl nw, OKo (rdA T len of (len + 1) 0 (0, 0, -1, -1, DiA D of)).D nh nl nw) ∧ (of = 1 → ∃ c, OKw (rdA T len of (len + 1) 0 (0, 0, -1, -1, DiA D of)).D c) ∧ (of = 2 → ∃ c, OKg (rdA T len of (len + 1) 0 (0, 0, -1, -1, DiA D of)).D c) := by
  obtain ⟨h1, h2⟩ := rd_iv (T := T) (len := len) hof (len + 1) 0 (0, 0, -1, -1, DiA D of) (Nat.zero_le _) (by omega) (Di_iv hof)
  obtain ⟨a, b, c⟩ := h1 hz
  refine ⟨fun o => ?_, b, c⟩
  obtain ⟨nh, nl, nw, H⟩ := a o
  obtain ⟨g1, g2⟩ := h2 hz o
  exact ⟨nh, nl, nw, OKo_r H g1 g2⟩
