def RW (I K : mI) (w kw c : Nat) : Prop := WD I w (fun j => K 102 (121 * kw + j)) c ∧ OKw (fun j => K 102 (121 * kw + j)) c
theorem RW.c {I K : mI} {w kw c : Nat} (h : RW I K w kw c) : I w 0 = nI c := h.1.a0
theorem RW.k {I K : mI} {w kw c : Nat} (h : RW I K w kw c) : K 102 (121 * kw) = nI c := h.2.d0
theorem RW.WFwc {I K : mI} {w kw c : Nat} (h : RW I K w kw c) : WFwc I w c := fun k hk => by
  obtain ⟨u, hu, e, _⟩ := h.2.r k hk
  exact ⟨u, hu, (h.1.r1 k hk).trans e⟩
theorem RW.WFw {I K : mI} {w kw c : Nat} (h : RW I K w kw c) : WFw K kw c := fun k hk => by
  obtain ⟨u, hu, e, _⟩ := h.2.r k hk
  refine ⟨u, hu, ?_⟩
  show K 102 (121 * kw + 1 + 3 * k + 0) = nI u
  rw [show 121 * kw + 1 + 3 * k + 0 = 121 * kw + (1 + 3 * k) by omega]; exact e
theorem st_sim {I K : mI} {o ko nh nl nw w kw c : Nat} (H : RO I K o ko nh nl nw) (hw : RW I K w kw c) {k : Nat} (hk : k < c) {s t : cS} (h : simS nh s t) : simO nh (stC I o w nh nl k s) (stR (laI K ko kw) ko nh nl kw k t) := by
  have e1 : I (w + 1) k = wkR0 (laI K ko kw) kw k 0 := by
    rw [hw.1.r1 k hk]; show K 102 (121 * kw + (1 + 3 * k)) = K 102 (121 * kw + 1 + 3 * k + 0); congr 1; omega
  have e2 : I (w + 2) k = wkR0 (laI K ko kw) kw k 1 := by
    rw [hw.1.r2 k hk]; show K 102 (121 * kw + (2 + 3 * k)) = K 102 (121 * kw + 1 + 3 * k + 1); congr 1; omega
  have e3 : I (w + 3) k = wkR0 (laI K ko kw) kw k 2 := by
    rw [hw.1.r3 k hk]; show K 102 (121 * kw + (3 + 3 * k)) = K 102 (121 * kw + 1 + 3 * k + 2); congr 1; omega
  show simO nh (doF nh nl (I (o + 2)) (dsO I o) (I (o + 5)) (I (o + 3)) nh s (I (w + 1) k).toNatClampNeg (I (w + 2) k) (I (w + 3) k)) _
  rw [e1, e2, e3]
  exact do_sim (H' := 6) H.sim h (Nat.le_refl _) H.2.nh6 H.2.nh6 H.2.l10
theorem op_sim {I K : mI} {o ko nh nl nw : Nat} (H : RO I K o ko nh nl nw) {md ls cm : Nat → Int32} {X : mI} (hX : ∀ j, oR X ko j = oR K ko j) : simS nh (opC I md ls cm o nl) (opS X ko nl) := by
  have h6 := H.2.nh6
  refine ⟨fun h hh => ?_, rfl⟩
  show va_cpy (I (o + 1)) md 0 0 6 h = m_fill (fun h => oR X ko (3 + h)) (X 107) 6 h ∧ m_fill (fun _ => -1) ls 6 h = m_fill (fun _ => -1) (X 108) 6 h ∧ m_fill (fun _ => 0) cm 6 h = m_fill (fun _ => 0) (X 109) 6 h ∧ kOK (m_fill (fun _ => -1) ls 6 h)
  unfold va_cpy m_fill
  rw [if_pos (by omega), if_pos (show h < 6 by omega), if_pos (show h < 6 by omega), if_pos (show h < 6 by omega), if_pos (show h < 6 by omega), if_pos (show h < 6 by omega)]
  refine ⟨?_, rfl, rfl, Or.inl rfl⟩
  rw [show 0 + (h - 0) = h by omega]
  exact (H.1.mo h (by omega)).trans (hX (3 + h)).symm
theorem RO.pl_ {I K : mI} {o ko nh nl nw w kw c N : Nat} (H : RO I K o ko nh nl nw) (hw : RW I K w kw c) (hN : N ≤ c) : (plC I o w nh nl N).1 = (plR (laI K ko kw) ko nh nl kw N).1 ∧ simS nh (plC I o w nh nl N).2.1 (plR (laI K ko kw) ko nh nl kw N).2 :=
  pl_sim (c := c) (fun k hk s t h => st_sim H hw hk h) N 0 _ _ _ (by omega) (op_sim H (fun j => rfl))
/-- till, state -/
theorem e_till {I K : mI} {o ko nh nl nw w kw c : Nat} (H : RO I K o ko nh nl nw) (hw : RW I K w kw c) : nI (plC I o w nh nl c).1 = nI (plR (laI K ko kw) ko nh nl kw c).1 := by rw [(H.pl_ hw (Nat.le_refl _)).1]
theorem e_state {I K : mI} {o ko nh nl nw w kw c N : Nat} {t : Int32} (H : RO I K o ko nh nl nw) (hw : RW I K w kw c) (hN : N ≤ c) : (if (plC I o w nh nl N).1 = N then osF nh (plC I o w nh nl N).2.1 t else -1000) = (if (plR (laI K ko kw) ko nh nl kw N).1 = N then osF nh (plR (laI K ko kw) ko nh nl kw N).2 t else -1000) := by
  obtain ⟨e, h⟩ := H.pl_ hw hN
  rw [e, os_sim h]
/-- drawn -/
theorem gd_sim {nh : Nat} {a b : Option cS} {s t : cS} (h : simO nh a b) (h2 : simS nh s t) : simS nh (a.getD s) (b.getD t) := by
  rcases h with ⟨e1, e2⟩ | ⟨s', t', e1, e2, h'⟩
  · rw [e1, e2]; exact h2
  · rw [e1, e2]; exact h'
theorem dr_sim {nh nl : Nat} {d1 d2 : cS → Nat → Int32 → Int32 → Option cS} (hd : ∀ s t u l h, simS nh s t → simO nh (d1 s u l h) (d2 t u l h)) {sd : Int32} {s t : cS} (h : simS nh s t) : (drF nh nl d1 sd s).1 = (drF nh nl d2 sd t).1 ∧ simS nh (drF nh nl d1 sd s).2 (drF nh nl d2 sd t).2 := by
  unfold drF
  by_cases c1 : sdN (nxS sd) % 8 = 7
  · rw [if_pos c1, if_pos c1]; exact ⟨rfl, gd_sim (hd _ _ _ _ _ h) h⟩
  · rw [if_neg c1, if_neg c1]
    by_cases c2 : nl = 0
    · rw [if_pos c2, if_pos c2]; exact ⟨rfl, h⟩
    · rw [if_neg c2, if_neg c2]
      by_cases c3 : sdN (nxS sd) % 8 = 4 ∨ sdN (nxS sd) % 8 = 5
      · rw [if_pos c3, if_pos c3]; exact ⟨rfl, gd_sim (hd _ _ _ _ _ h) h⟩
      · rw [if_neg c3, if_neg c3]; exact ⟨rfl, gd_sim (hd _ _ _ _ _ h) h⟩
theorem dn_sim {nh nl : Nat} {d1 d2 : cS → Nat → Int32 → Int32 → Option cS} (hd : ∀ s t u l h, simS nh s t → simO nh (d1 s u l h) (d2 t u l h)) {sd : Int32} {s t : cS} (h : simS nh s t) : ∀ k, (dnN nh nl d1 k (sd, s)).1 = (dnN nh nl d2 k (sd, t)).1 ∧ simS nh (dnN nh nl d1 k (sd, s)).2 (dnN nh nl d2 k (sd, t)).2 := by
  intro k
  induction k with
  | zero => exact ⟨rfl, h⟩
  | succ k ih =>
    show (drF nh nl d1 (dnN nh nl d1 k (sd, s)).1 (dnN nh nl d1 k (sd, s)).2).1 = (drF nh nl d2 (dnN nh nl d2 k (sd, t)).1 (dnN nh nl d2 k (sd, t)).2).1 ∧ simS nh (drF nh nl d1 (dnN nh nl d1 k (sd, s)).1 (dnN nh nl d1 k (sd, s)).2).2 (drF nh nl d2 (dnN nh nl d2 k (sd, t)).1 (dnN nh nl d2 k (sd, t)).2).2
    rw [ih.1]
    exact dr_sim hd ih.2
theorem e_drawn {I K : mI} {o ko nh nl nw N : Nat} {sd t : Int32} (H : RO I K o ko nh nl nw) : osF nh (dnN nh nl (doC I o nh nl) N (sd, opI I o nl)).2 t = osF nh (dnN nh nl (doR (hdI (cdI K) ko) ko nh nl) N (sd, opS (sdI (hdI (cdI K) ko) sd) ko nl)).2 t := by
  have hd : ∀ s t u l h, simS nh s t → simO nh (doC I o nh nl s u l h) (doR (hdI (cdI K) ko) ko nh nl t u l h) := fun s t u l h q => do_sim (H' := 6) H.sim q (Nat.le_refl _) H.2.nh6 H.2.nh6 H.2.l10
  have h0 : simS nh (opI I o nl) (opS (sdI (hdI (cdI K) ko) sd) ko nl) := op_sim H (fun j => rfl)
  exact os_sim (dn_sim hd h0 N).2 t
/-- the lowest: of least mood, then of least number -/
def lwP (f : Nat → Int32) (p : Int32 × Int32) (k : Nat) : Prop := ¬ f k < p.1 ∧ (f k = p.1 → p.2 ≤ nI k)
theorem lw_ok {f : Nat → Int32} {p : Int32 × Int32} : ∀ k, k ≤ 6 → ∀ j, j < k → lwP f (lwN f p k) j := by
  intro k
  induction k with
  | zero => intro _ j hj; exact absurd hj (by omega)
  | succ k ih =>
    intro hk j hj
    have e : lwN f p (k + 1) = if f k < (lwN f p k).1 then (f k, nI k) else if f k = (lwN f p k).1 then (if (lwN f p k).2 ≤ nI k then lwN f p k else (f k, nI k)) else lwN f p k := rfl
    rw [e]
    by_cases c1 : f k < (lwN f p k).1
    · rw [if_pos c1]
      by_cases ej : j = k
      · subst ej; exact ⟨Int32.lt_irrefl, fun _ => Int32.le_refl _⟩
      · have q := ih (by omega) j (by omega)
        refine ⟨fun w => q.1 (Int32.lt_trans w c1), fun w => absurd ?_ q.1⟩
        rw [w]; exact c1
    · rw [if_neg c1]
      by_cases c2 : f k = (lwN f p k).1
      · rw [if_pos c2]
        by_cases c3 : (lwN f p k).2 ≤ nI k
        · rw [if_pos c3]
          by_cases ej : j = k
          · subst ej; exact ⟨c1, fun _ => c3⟩
          · exact ih (by omega) j (by omega)
        · rw [if_neg c3]
          by_cases ej : j = k
          · subst ej; exact ⟨Int32.lt_irrefl, fun _ => Int32.le_refl _⟩
          · have q := ih (by omega) j (by omega)
            refine ⟨by rw [show ((f k, nI k) : Int32 × Int32).1 = f k from rfl, c2]; exact q.1, fun w => absurd (q.2 (w.trans c2)) (fun z => c3 (Int32.le_trans z ((nI_leI (by omega) (by omega)).mpr (by omega))))⟩
      · rw [if_neg c2]
        by_cases ej : j = k
        · subst ej; exact ⟨c1, fun w => absurd w c2⟩
        · exact ih (by omega) j (by omega)
theorem lw_id {f : Nat → Int32} {p : Int32 × Int32} : ∀ k, (∀ j, j < k → lwP f p j) → lwN f p k = p := by
  intro k
  induction k with
  | zero => intro _; rfl
  | succ k ih =>
    intro h
    have e : lwN f p (k + 1) = if f k < (lwN f p k).1 then (f k, nI k) else if f k = (lwN f p k).1 then (if (lwN f p k).2 ≤ nI k then lwN f p k else (f k, nI k)) else lwN f p k := rfl
    rw [e, ih (fun j hj => h j (by omega))]
    obtain ⟨h1, h2⟩ := h k (by omega)
    rw [if_neg h1]
    by_cases c : f k = p.1
    · rw [if_pos c, if_pos (h2 c)]
    · rw [if_neg c]
theorem lw_cg {f g : Nat → Int32} {p : Int32 × Int32} : ∀ k, (∀ j, j < k → f j = g j) → lwN f p k = lwN g p k := by
  intro k
  induction k with
  | zero => intro _; rfl
  | succ k ih =>
    intro h
    show (if f k < (lwN f p k).1 then (f k, nI k) else if f k = (lwN f p k).1 then (if (lwN f p k).2 ≤ nI k then lwN f p k else (f k, nI k)) else lwN f p k) = (if g k < (lwN g p k).1 then (g k, nI k) else if g k = (lwN g p k).1 then (if (lwN g p k).2 ≤ nI k then lwN g p k else (g k, nI k)) else lwN g p k)
    rw [ih (fun j hj => h j (by omega)), h k (by omega)]
theorem lw_0 {f : Nat → Int32} (h0 : f 0 < 1000000) : ∀ k, lwN f (1000000, -1) (k + 1) = lwN f (f 0, 0) (k + 1) := by
  intro k
  induction k with
  | zero =>
    show (if f 0 < 1000000 then (f 0, nI 0) else _) = (if f 0 < f 0 then (f 0, nI 0) else if f 0 = f 0 then (if (0 : Int32) ≤ nI 0 then (f 0, 0) else (f 0, nI 0)) else (f 0, 0))
    rw [if_pos h0, if_neg Int32.lt_irrefl, if_pos rfl, if_pos (by decide)]; rfl
  | succ k ih =>
    show (if f (k + 1) < (lwN f (1000000, -1) (k + 1)).1 then (f (k + 1), nI (k + 1)) else if f (k + 1) = (lwN f (1000000, -1) (k + 1)).1 then (if (lwN f (1000000, -1) (k + 1)).2 ≤ nI (k + 1) then lwN f (1000000, -1) (k + 1) else (f (k + 1), nI (k + 1))) else lwN f (1000000, -1) (k + 1)) = (if f (k + 1) < (lwN f (f 0, 0) (k + 1)).1 then (f (k + 1), nI (k + 1)) else if f (k + 1) = (lwN f (f 0, 0) (k + 1)).1 then (if (lwN f (f 0, 0) (k + 1)).2 ≤ nI (k + 1) then lwN f (f 0, 0) (k + 1) else (f (k + 1), nI (k + 1))) else lwN f (f 0, 0) (k + 1))
    rw [ih]
theorem af_sim {nh : Nat} (hnh : nh ≤ 6) {st1 st2 : Nat → cS → Option cS} {us : Nat → Nat} {c : Nat} (hs : ∀ k, k < c → ∀ s t, simS nh s t → simO nh (st1 k s) (st2 k t)) (hu : ∀ k, k < c → us k = 2 → ∀ t t', st2 k t = some t' → t'.1 = t.1) : ∀ m k s t p q, k + m ≤ c → simS nh s t → p = lwN t.1 q nh → (plG st1 us nh m k s p).2.2 = (afG st2 nh m k t q).2 ∧ simS nh (plG st1 us nh m k s p).2.1 (afG st2 nh m k t q).1 := by
  intro m
  induction m with
  | zero => intro k s t p q _ h e; exact ⟨e, h⟩
  | succ m ih =>
    intro k s t p q hk h e
    rcases hs k (by omega) s t h with ⟨e1, e2⟩ | ⟨s', t', e1, e2, h'⟩
    · have f1 : plG st1 us nh (m + 1) k s p = (k, s, p) := by show (match st1 k s with | none => (k, s, p) | some s' => _) = _; rw [e1]
      have f2 : afG st2 nh (m + 1) k t q = (t, lwN t.1 q nh) := by show (match st2 k t with | none => (t, lwN t.1 q nh) | some s' => _) = _; rw [e2]
      rw [f1, f2]; exact ⟨e, h⟩
    · have f1 : plG st1 us nh (m + 1) k s p = plG st1 us nh m (k + 1) s' (lwU nh (us k) s' p) := by show (match st1 k s with | none => (k, s, p) | some s' => _) = _; rw [e1]
      have f2 : afG st2 nh (m + 1) k t q = afG st2 nh m (k + 1) t' (lwN t.1 q nh) := by show (match st2 k t with | none => (t, lwN t.1 q nh) | some s' => _) = _; rw [e2]
      rw [f1, f2]
      refine ih (k + 1) s' t' _ _ (by omega) h' ?_
      rw [← e]
      unfold lwU
      by_cases c2 : us k = 2
      · rw [if_pos c2, hu k (by omega) c2 t t' e2]
        refine (lw_id nh (fun j hj => ?_)).symm
        rw [e]; exact lw_ok nh hnh j hj
      · rw [if_neg c2]; exact lw_cg nh (fun j hj => (h'.1 j hj).1)
theorem do_bu {nh nl H : Nat} {hm : Nat → Int32} {ds : Nat → Int32 → Int32} {bs kd : Nat → Int32} {t t' : cS} {l g : Int32} (h : doF nh nl hm ds bs kd H t 2 l g = some t') : t'.1 = t.1 := by
  unfold doF at h
  rw [if_neg (by decide)] at h
  by_cases c4 : f_in l 0 (nI nl - 1) = 0 ∨ f_has t.2.2.2.2.1 l = 0
  · rw [if_pos c4] at h; exact absurd h (by simp)
  · rw [if_neg c4, if_neg (fun q => absurd q.1 (by decide)), if_pos rfl] at h
    rw [← Option.some.inj h]; rfl
/-- after -/
theorem e_after {I K : mI} {o ko nh nl nw w kw c : Nat} {x : Int32} (H : RO I K o ko nh nl nw) (hw : RW I K w kw c) : afF (plC I o w nh nl c).2.1 (plC I o w nh nl c).2.2 x = afF (afT (laI K ko kw) ko nh nl kw c).1 (afT (laI K ko kw) ko nh nl kw c).2 x := by
  have h6 := H.2.nh6
  have h1 := H.2.nh1
  have h0 : simS nh (opI I o nl) (opS (laI K ko kw) ko nl) := op_sim H (fun j => rfl)
  have hp : opQ I o nh = lwN (opS (laI K ko kw) ko nl).1 (1000000, -1) nh := by
    obtain ⟨m, hm, em⟩ := H.2.mo 0 (by omega)
    have e0 : (opS (laI K ko kw) ko nl).1 0 = nI m := by
      show m_fill (fun h => oR (laI K ko kw) ko (3 + h)) ((laI K ko kw) 107) 6 0 = _
      unfold m_fill; rw [if_pos (by decide)]; exact em
    have e1 : I (o + 1) 0 = nI m := (H.1.mo 0 (by omega)).trans em
    obtain ⟨n, rfl⟩ : ∃ n, nh = n + 1 := ⟨nh - 1, by omega⟩
    rw [lw_0 (by rw [e0, show (1000000 : Int32) = nI 1000000 from rfl, nI_ltI (by omega) (by decide)]; omega), e0, ← e1]
    exact lw_cg (n + 1) (fun j hj => (h0.1 j hj).1)
  obtain ⟨a, b⟩ := af_sim h6 (c := c) (st1 := stC I o w nh nl) (st2 := stR (laI K ko kw) ko nh nl kw) (us := usC I w) (fun k hk s t h => st_sim H hw hk h) (fun k hk hu t t' e => by
    have e1 : wkR0 (laI K ko kw) kw k 0 = I (w + 1) k := by
      rw [hw.1.r1 k hk]; show K 102 (121 * kw + 1 + 3 * k + 0) = K 102 (121 * kw + (1 + 3 * k)); congr 1; omega
    have e2 : (wkR0 (laI K ko kw) kw k 0).toNatClampNeg = 2 := by rw [e1]; exact hu
    have e : doF nh nl ((laI K ko kw) 106) (dsR (laI K ko kw) ko) (bsR (laI K ko kw) ko) (fun l => oR (laI K ko kw) ko (19 + l)) 6 t (wkR0 (laI K ko kw) kw k 0).toNatClampNeg (wkR0 (laI K ko kw) kw k 1) (wkR0 (laI K ko kw) kw k 2) = some t' := e
    rw [e2] at e; exact do_bu e) c 0 (opI I o nl) (opS (laI K ko kw) ko nl) (opQ I o nh) (1000000, -1) (by omega) h0 hp
  show afF (plG (stC I o w nh nl) (usC I w) nh c 0 (opI I o nl) (opQ I o nh)).2.1 (plG (stC I o w nh nl) (usC I w) nh c 0 (opI I o nl) (opQ I o nh)).2.2 x = afF (afG (stR (laI K ko kw) ko nh nl kw) nh c 0 (opS (laI K ko kw) ko nl) (1000000, -1)).1 (afG (stR (laI K ko kw) ko nh nl kw) nh c 0 (opS (laI K ko kw) ko nl) (1000000, -1)).2 x
  rw [a]
  unfold afF
  rw [b.2]
