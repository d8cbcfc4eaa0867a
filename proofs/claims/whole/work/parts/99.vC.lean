/-- two courses that stand alike in the houses -/
def simS (nh : Nat) (s t : cS) : Prop := (∀ h, h < nh → s.1 h = t.1 h ∧ s.2.1 h = t.2.1 h ∧ s.2.2.1 h = t.2.2.1 h ∧ kOK (s.2.1 h)) ∧ s.2.2.2 = t.2.2.2
def simH (nh nl : Nat) (hm hm' : Nat → Int32) (ds ds' : Nat → Int32 → Int32) (bs bs' kd kd' : Nat → Int32) : Prop := ∀ l, l < nl → hm l = hm' l ∧ (∃ a, a < nh ∧ hm l = nI a) ∧ bs l = bs' l ∧ kd l = kd' l ∧ kOK (kd l) ∧ ∀ x, kOK x → ds l x = ds' l x
theorem gv_sim {nh nl : Nat} {hm hm' : Nat → Int32} {ds ds' : Nat → Int32 → Int32} {bs bs' kd kd' : Nat → Int32} (hH : simH nh nl hm hm' ds ds' bs bs' kd kd') {s t : cS} (h : simS nh s t) {l g : Nat} (hl : l < nl) (hg : g < nh) : simS nh (gvS ds bs kd s l g) (gvS ds' bs' kd' t l g) := by
  obtain ⟨h1, h2⟩ := h
  obtain ⟨_, _, e3, e4, e5, e6⟩ := hH l hl
  obtain ⟨g1, g2, g3, g4⟩ := h1 g hg
  have ed : ds l (s.2.1 g) = ds' l (t.2.1 g) := by rw [e6 _ g4, g2]
  refine ⟨fun j hj => ?_, ?_⟩
  · obtain ⟨j1, j2, j3, j4⟩ := h1 j hj
    show va_up s.1 g (s.1 g + ds l (s.2.1 g)) j = va_up t.1 g (t.1 g + ds' l (t.2.1 g)) j ∧ va_up s.2.1 g (kd l) j = va_up t.2.1 g (kd' l) j ∧ va_up s.2.2.1 g (s.2.2.1 g + 1) j = va_up t.2.2.1 g (t.2.2.1 g + 1) j ∧ kOK (va_up s.2.1 g (kd l) j)
    rw [ed, g1, g3, e4]
    by_cases c : j = g
    · subst c
      rw [va_up_self, va_up_self, va_up_self, va_up_self, va_up_self, va_up_self]
      exact ⟨rfl, rfl, rfl, by rw [← e4]; exact e5⟩
    · rw [va_up_ne _ _ c, va_up_ne _ _ c, va_up_ne _ _ c, va_up_ne _ _ c, va_up_ne _ _ c, va_up_ne _ _ c]
      exact ⟨j1, j2, j3, j4⟩
  · show (s.2.2.2.1, s.2.2.2.2.1 &&& (1 <<< (nI l &&& 31) ^^^ -1), s.2.2.2.2.2.1, s.2.2.2.2.2.2.1 + ds l (s.2.1 g), s.2.2.2.2.2.2.2.1 ||| (if ds l (s.2.1 g) = bs l then nI 0 else nI 1 <<< (nI l &&& 31)), s.2.2.2.2.2.2.2.2 + (if ds l (s.2.1 g) = 0 then nI 1 else nI 0)) = (t.2.2.2.1, t.2.2.2.2.1 &&& (1 <<< (nI l &&& 31) ^^^ -1), t.2.2.2.2.2.1, t.2.2.2.2.2.2.1 + ds' l (t.2.1 g), t.2.2.2.2.2.2.2.1 ||| (if ds' l (t.2.1 g) = bs' l then nI 0 else nI 1 <<< (nI l &&& 31)), t.2.2.2.2.2.2.2.2 + (if ds' l (t.2.1 g) = 0 then nI 1 else nI 0))
    rw [ed, e3, h2]
theorem nt_sim {nh H H' : Nat} {s t : cS} (h : simS nh s t) (h1 : nh ≤ H) (h2 : nh ≤ H') : simS nh (ntS H s) (ntS H' t) := by
  obtain ⟨g1, g2⟩ := h
  refine ⟨fun j hj => ?_, ?_⟩
  · obtain ⟨j1, j2, j3, j4⟩ := g1 j hj
    show m_fill (fun j => ntF (s.1 j)) s.1 H j = m_fill (fun j => ntF (t.1 j)) t.1 H' j ∧ m_fill (fun _ => -1) s.2.1 H j = m_fill (fun _ => -1) t.2.1 H' j ∧ s.2.2.1 j = t.2.2.1 j ∧ kOK (m_fill (fun _ => -1) s.2.1 H j)
    unfold m_fill
    rw [if_pos (show j < H by omega), if_pos (show j < H' by omega), if_pos (show j < H by omega), if_pos (show j < H' by omega)]
    exact ⟨congrArg ntF j1, rfl, j3, Or.inl rfl⟩
  · show (s.2.2.2.1 + 1, s.2.2.2.2) = (t.2.2.2.1 + 1, t.2.2.2.2)
    rw [g2]
theorem bu_sim {nh l : Nat} {s t : cS} (h : simS nh s t) : simS nh (buS s l) (buS t l) := by
  obtain ⟨g1, g2⟩ := h
  refine ⟨g1, ?_⟩
  show (s.2.2.2.1, s.2.2.2.2.1 &&& (1 <<< (nI l &&& 31) ^^^ -1), s.2.2.2.2.2) = (t.2.2.2.1, t.2.2.2.2.1 &&& (1 <<< (nI l &&& 31) ^^^ -1), t.2.2.2.2.2)
  rw [g2]
theorem sl_sim {nh : Nat} {x : Int32} {s t : cS} (h : simS nh s t) : simS nh (slS s x) (slS t x) := by
  obtain ⟨g1, g2⟩ := h
  refine ⟨g1, ?_⟩
  show (s.2.2.2.1, s.2.2.2.2.1, s.2.2.2.2.2.1 + x, s.2.2.2.2.2.2) = (t.2.2.2.1, t.2.2.2.2.1, t.2.2.2.2.2.1 + x, t.2.2.2.2.2.2)
  rw [g2]
def simO (nh : Nat) (a b : Option cS) : Prop := (a = none ∧ b = none) ∨ ∃ s t, a = some s ∧ b = some t ∧ simS nh s t
theorem do_sim {nh nl H H' : Nat} {hm hm' : Nat → Int32} {ds ds' : Nat → Int32 → Int32} {bs bs' kd kd' : Nat → Int32} (hH : simH nh nl hm hm' ds ds' bs bs' kd kd') {s t : cS} (h : simS nh s t) (h1 : nh ≤ H) (h2 : nh ≤ H') (hnh : nh ≤ 6) (hnl : nl ≤ 10) {u : Nat} {l g : Int32} : simO nh (doF nh nl hm ds bs kd H s u l g) (doF nh nl hm' ds' bs' kd' H' t u l g) := by
  unfold doF
  by_cases c3 : u = 3
  · rw [if_pos c3, if_pos c3]; exact Or.inr ⟨_, _, rfl, rfl, nt_sim h h1 h2⟩
  · rw [if_neg c3, if_neg c3, ← h.2]
    by_cases c4 : f_in l 0 (nI nl - 1) = 0 ∨ f_has s.2.2.2.2.1 l = 0
    · rw [if_pos c4, if_pos c4]; exact Or.inl ⟨rfl, rfl⟩
    · rw [if_neg c4, if_neg c4]
      obtain ⟨j, hj, ej⟩ := f_in_nz (x := l) (c := nl) (by omega) (fun q => c4 (Or.inl q))
      have ec : l.toNatClampNeg = j := by rw [ej]; exact nI_clamp (by omega)
      rw [ec]
      obtain ⟨e1, ⟨a, ha, e2⟩, _⟩ := hH j hj
      rw [← e1]
      by_cases c5 : u = 1 ∧ (f_in g 0 (nI nh - 1) = 0 ∨ g = hm j)
      · rw [if_pos c5, if_pos c5]; exact Or.inl ⟨rfl, rfl⟩
      · rw [if_neg c5, if_neg c5]
        by_cases c6 : u = 2
        · rw [if_pos c6, if_pos c6]; exact Or.inr ⟨_, _, rfl, rfl, bu_sim h⟩
        · rw [if_neg c6, if_neg c6]
          by_cases c7 : u = 1
          · rw [if_pos c7, if_pos c7]
            obtain ⟨y, hy, ey⟩ := f_in_nz (x := g) (c := nh) (by omega) (fun q => c5 ⟨c7, Or.inl q⟩)
            have ey2 : g.toNatClampNeg = y := by rw [ey]; exact nI_clamp (by omega)
            rw [ey2]
            exact Or.inr ⟨_, _, rfl, rfl, sl_sim (gv_sim hH h hj hy)⟩
          · rw [if_neg c7, if_neg c7]
            have ey2 : (hm j).toNatClampNeg = a := by rw [e2]; exact nI_clamp (by omega)
            rw [ey2]
            exact Or.inr ⟨_, _, rfl, rfl, sl_sim (gv_sim hH h hj ha)⟩
theorem pl_sim {nh : Nat} {st1 st2 : Nat → cS → Option cS} {us : Nat → Nat} {c : Nat} (hs : ∀ k, k < c → ∀ s t, simS nh s t → simO nh (st1 k s) (st2 k t)) : ∀ m k s t p, k + m ≤ c → simS nh s t → (plG st1 us nh m k s p).1 = (plF st2 m k t).1 ∧ simS nh (plG st1 us nh m k s p).2.1 (plF st2 m k t).2 := by
  intro m
  induction m with
  | zero => intro k s t p _ h; exact ⟨rfl, h⟩
  | succ m ih =>
    intro k s t p hk h
    rcases hs k (by omega) s t h with ⟨e1, e2⟩ | ⟨s', t', e1, e2, h'⟩
    · have f1 : plG st1 us nh (m + 1) k s p = (k, s, p) := by show (match st1 k s with | none => (k, s, p) | some s' => _) = _; rw [e1]
      have f2 : plF st2 (m + 1) k t = (k, t) := by show (match st2 k t with | none => (k, t) | some s' => _) = _; rw [e2]
      rw [f1, f2]; exact ⟨rfl, h⟩
    · have f1 : plG st1 us nh (m + 1) k s p = plG st1 us nh m (k + 1) s' (lwU nh (us k) s' p) := by show (match st1 k s with | none => (k, s, p) | some s' => _) = _; rw [e1]
      have f2 : plF st2 (m + 1) k t = plF st2 m (k + 1) t' := by show (match st2 k t with | none => (k, t) | some s' => _) = _; rw [e2]
      rw [f1, f2]; exact ih (k + 1) s' t' _ (by omega) h'
theorem smN_cg {f g : Nat → Int32} : ∀ k, (∀ j, j < k → f j = g j) → smN f k = smN g k := by
  intro k
  induction k with
  | zero => intro _; rfl
  | succ k ih => intro h; show smN f k + f k = smN g k + g k; rw [ih (fun j hj => h j (by omega)), h k (by omega)]
theorem os_sim {nh : Nat} {s t : cS} (h : simS nh s t) (x : Int32) : osF nh s x = osF nh t x := by
  obtain ⟨h1, h2⟩ := h
  unfold osF
  rw [h2, smN_cg nh (fun j hj => (h1 j hj).1)]
  by_cases c : x.toNatClampNeg % 10 < nh
  · obtain ⟨e1, e2, e3, _⟩ := h1 _ c
    rw [e1, e2, e3]
  · rw [if_neg c, if_neg c]
/-- the offices of both sides make alike courses -/
theorem RO.sim {I K : mI} {o ko nh nl nw : Nat} (H : RO I K o ko nh nl nw) : simH nh nl (I (o + 2)) ((hdI (cdI K) ko) 106) (dsO I o) (dsR (hdI (cdI K) ko) ko) (I (o + 5)) (bsR (hdI (cdI K) ko) ko) (I (o + 3)) (fun l => oR (hdI (cdI K) ko) ko (19 + l)) := by
  intro l hl
  have h10 := H.2.l10
  obtain ⟨a, ha, e, q⟩ := H.2.ho l (by omega)
  refine ⟨?_, ⟨a, q hl, (H.1.ho l hl).trans e⟩, H.pl hl, H.kd hl, by rw [H.kd hl]; exact H.kOK (by omega), fun x hx => H.ds hl hx⟩
  rw [hm_hd (by omega)]; exact H.1.ho l hl
