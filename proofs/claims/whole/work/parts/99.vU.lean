theorem acN_cg {ds ds' : Nat → Int32 → Int32} {kd kd' : Nat → Int32} {hv hv' : Nat → Nat} {s t : g3} {nl : Nat} (hd : ∀ l, l < nl → ∀ x, kOK x → ds l x = ds' l x) (hk : ∀ l, l < nl → kd l = kd' l ∧ kOK (kd l)) (hh : ∀ l, l < nl → hv l = hv' l ∧ hv' l < 6) (h0 : ∀ j, j < 6 → s.1 j = t.1 j) (h1 : ∀ j, j < 6 → s.2.1 j = t.2.1 j ∧ kOK (s.2.1 j)) : ∀ k, k ≤ nl → ∀ j, j < 6 → (acN ds kd hv s k).1 j = (acN ds' kd' hv' t k).1 j ∧ (acN ds kd hv s k).2.1 j = (acN ds' kd' hv' t k).2.1 j ∧ kOK ((acN ds kd hv s k).2.1 j) := by
  intro k
  induction k with
  | zero => intro _ j hj; exact ⟨h0 j hj, h1 j hj⟩
  | succ k ih =>
    intro hk2 j hj
    obtain ⟨e, e6⟩ := hh k (by omega)
    obtain ⟨i1, i2, i3⟩ := ih (by omega) _ e6
    show va_up (acN ds kd hv s k).1 (hv k) ((acN ds kd hv s k).1 (hv k) + ds k ((acN ds kd hv s k).2.1 (hv k))) j = va_up (acN ds' kd' hv' t k).1 (hv' k) ((acN ds' kd' hv' t k).1 (hv' k) + ds' k ((acN ds' kd' hv' t k).2.1 (hv' k))) j ∧ va_up (acN ds kd hv s k).2.1 (hv k) (kd k) j = va_up (acN ds' kd' hv' t k).2.1 (hv' k) (kd' k) j ∧ kOK (va_up (acN ds kd hv s k).2.1 (hv k) (kd k) j)
    rw [e]
    by_cases c : j = hv' k
    · rw [c, vup_eq, vup_eq, vup_eq, vup_eq, i1, hd k (by omega) _ i3, i2]
      exact ⟨rfl, (hk k (by omega)).1, (hk k (by omega)).2⟩
    · rw [vup_ne c, vup_ne c, vup_ne c, vup_ne c]
      exact ih (by omega) j hj
theorem lg_106 {K : mI} {ko kg l : Nat} (hl : l < 10) : (lgI K ko kg) 106 l = oR K ko (9 + l) := by
  show m_fill (fun l => oR (m_up (cdI K) 95 47 (nI kg)) ko (9 + l)) _ 10 l = _
  unfold m_fill; rw [if_pos hl]; rfl
theorem RO.hmL {I K : mI} {o ko nh nl nw kg l : Nat} (H : RO I K o ko nh nl nw) (hl : l < nl) : hmN (I (o + 2)) l = hmN ((lgI K ko kg) 106) l := by
  unfold hmN; rw [lg_106 (by have := H.2.l10; omega), H.1.ho l hl]
/-- the moods when all letters have come -/
theorem RO.mv {I K : mI} {o ko nh nl nw kg sp h : Nat} (H : RO I K o ko nh nl nw) (hs : sp < 60 ∨ sp = 99) (hh : h < 6) : moS I o nl sp h = mvR (lgI K ko kg) ko nl sp h := by
  have h10 := H.2.l10
  refine (acN_cg (s := (I (o + 1), fun _ => -1, fun _ => 0)) (t := (fun h => oR K ko (3 + h), fun _ => -1, fun _ => 0)) (ds' := dsA K ko) (kd' := fun l => oR K ko (19 + l)) (hv' := hvS sp ((lgI K ko kg) 106)) (fun l hl x hx => H.ds hl hx) (fun l hl => ⟨H.kd hl, by rw [H.kd hl]; exact H.kOK (by omega)⟩) (fun l hl => ?_) (fun j hj => H.1.mo j hj) (fun j _ => ⟨rfl, Or.inl rfl⟩) nl (Nat.le_refl _) h hh).1
  have e : hvS sp (I (o + 2)) l = hvS sp ((lgI K ko kg) 106) l := by unfold hvS; rw [H.hmL hl]
  exact ⟨e, e ▸ hvS_lt H.WFh hs hl⟩
/-- a log's facts -/
theorem RG.q {I K : mI} {g kg c k : Nat} (G : RG I K g kg c) (hk : k < c) : ∃ q, q < 6 ∧ I (g + 1) k = nI q ∧ hmN (I (g + 1)) k = q ∧ K 103 (17 * kg + 1 + 2 * k + 0) = nI q ∧ I (g + 2) k = K 103 (17 * kg + 1 + 2 * k + 1) := by
  obtain ⟨q, hq, e⟩ := (G.2.2.2 k hk).1
  have e1 := (G.1.r1 k hk).trans e
  refine ⟨q, hq, e1, ?_, ?_, ?_⟩
  · unfold hmN; rw [e1]; exact nI_clamp (by omega)
  · rw [← e]; show _ = K 103 (17 * kg + (1 + 2 * k)); congr 1; omega
  · rw [G.1.r2 k hk]; show K 103 (17 * kg + (2 + 2 * k)) = _; congr 1; omega
theorem fitL_cg {P Q : Nat → Bool} : ∀ k, (∀ j, j < k → P j = Q j) → fitL P k = fitL Q k := by
  intro k
  induction k with
  | zero => intro _; rfl
  | succ k ih =>
    intro h
    show (if P k = true then fitL P k ++ [k] else fitL P k) = (if Q k = true then fitL Q k ++ [k] else fitL Q k)
    rw [h k (by omega), ih (fun j hj => h j (by omega))]
theorem fitL_no {P : Nat → Bool} : ∀ k, (∀ j, j < k → P j = false) → fitL P k = [] := by
  intro k
  induction k with
  | zero => intro _; rfl
  | succ k ih =>
    intro h
    show (if P k = true then fitL P k ++ [k] else fitL P k) = []
    rw [h k (by omega), ih (fun j hj => h j (by omega))]; rfl
theorem RO.may {I K : mI} {o ko nh nl nw kg sp : Nat} (H : RO I K o ko nh nl nw) : mayP I o nh nl sp ↔ mayR (lgI K ko kg) nh nl sp := by
  constructor
  · rintro (h | ⟨h1, h2, h3⟩)
    · exact Or.inl h
    · exact Or.inr ⟨h1, h2, by rw [← H.hmL h2]; exact h3⟩
  · rintro (h | ⟨h1, h2, h3⟩)
    · exact Or.inl h
    · exact Or.inr ⟨h1, h2, by rw [H.hmL (kg := kg) h2]; exact h3⟩
theorem RO.ag {I K : mI} {o ko nh nl nw g kg c sp : Nat} (H : RO I K o ko nh nl nw) (G : RG I K g kg c) (hF : WFg K kg c nh) (hs : sp < 60 ∨ sp = 99) : agP I o g c nh nl sp ↔ agR (lgI K ko kg) ko nl kg c sp := by
  have h6 := H.2.nh6
  have key : ∀ k, k < c → ((¬ f_of (nI (hmN (I (g + 1)) k)) (nI nh) = 0 ∧ moS I o nl sp (hmN (I (g + 1)) k) = I (g + 2) k) ↔ mvR (lgI K ko kg) ko nl sp (fhR (lgI K ko kg) kg k) = fcR (lgI K ko kg) kg k 1) := by
    intro k hk
    obtain ⟨q, hq, e1, e2, e3, e4⟩ := G.q hk
    obtain ⟨q', hq', e5⟩ := hF k hk
    have eq : q = q' := (nI_eq (by omega) (by omega)).mp (e3.symm.trans e5)
    have e6 : fhR (lgI K ko kg) kg k = q := by unfold fhR; show (K 103 (17 * kg + 1 + 2 * k + 0)).toNatClampNeg = q; rw [e3]; exact nI_clamp (by omega)
    rw [e2, e4, e6, H.mv (kg := kg) hs hq]
    exact ⟨fun h => h.2, fun h => ⟨fun c => by have := (f_of_z (by omega) (by omega)).mp c; omega, h⟩⟩
  exact ⟨fun h k hk => (key k hk).mp (h k hk), fun h k hk => (key k hk).mpr (h k hk)⟩
/-- the slips that fit -/
theorem e_ft {I K : mI} {o ko nh nl nw g kg c : Nat} (H : RO I K o ko nh nl nw) (G : RG I K g kg c) (hF : WFg K kg c nh) : ftL I o g c nh nl 100 = ftR (lgI K ko kg) ko nh nl kg c 100 := by
  have h6 := H.2.nh6
  refine fitL_cg 100 (fun sp _ => ?_)
  have e : (mayP I o nh nl sp ∧ agP I o g c nh nl sp) ↔ (mayR (lgI K ko kg) nh nl sp ∧ agR (lgI K ko kg) ko nl kg c sp) := by
    constructor
    · rintro ⟨h1, h2⟩
      have hs : sp < 60 ∨ sp = 99 := by rcases h1 with h | h; exact Or.inr h; exact Or.inl (by omega)
      exact ⟨H.may.mp h1, (H.ag G hF hs).mp h2⟩
    · rintro ⟨h1, h2⟩
      have hs : sp < 60 ∨ sp = 99 := by rcases h1 with h | h; exact Or.inr h; exact Or.inl (by omega)
      exact ⟨H.may.mpr h1, (H.ag G hF hs).mpr h2⟩
  unfold ftP fpR
  exact decide_eq_decide.mpr e
/-- not all houses of the log are the office's -/
theorem RG.ai {I K : mI} {g kg c nh : Nat} (G : RG I K g kg c) (h6 : nh ≤ 6) : (aiV I g c nh = 0 ∧ ∃ k, k < c ∧ f_in (fcR K kg k 0) 0 (nI nh - 1) = 0) ∨ (¬ aiV I g c nh = 0 ∧ WFg K kg c nh) := by
  by_cases h : ∀ k, k < c → ¬ f_of (nI (hmN (I (g + 1)) k)) (nI nh) = 0
  · refine Or.inr ⟨by rw [show aiV I g c nh = 1 from if_pos h]; decide, fun k hk => ?_⟩
    obtain ⟨q, hq, e1, e2, e3, e4⟩ := G.q hk
    refine ⟨q, ?_, e3⟩
    have := h k hk
    rw [e2] at this
    exact Nat.lt_of_not_le (fun c => this ((f_of_z (by omega) (by omega)).mpr c))
  · refine Or.inl ⟨if_neg h, ?_⟩
    obtain ⟨k, hk⟩ := Classical.not_forall.mp h
    obtain ⟨hk, h2⟩ := Classical.not_imp.mp hk
    obtain ⟨q, hq, e1, e2, e3, e4⟩ := G.q hk
    rw [e2] at h2
    refine ⟨k, hk, ?_⟩
    rw [show fcR K kg k 0 = nI q from e3]
    exact (fin_nc (by omega) (by omega)).mpr ((f_of_z (by omega) (by omega)).mp (Classical.not_not.mp h2))
theorem e_ft0 {I : mI} {o nh nl g c : Nat} (h : aiV I g c nh = 0) : ftL I o g c nh nl 100 = [] := by
  refine fitL_no 100 (fun sp _ => decide_eq_false (fun q => ?_))
  rw [show aiV I g c nh = 1 from if_pos (fun k hk => (q.2 k hk).1)] at h
  exact absurd h (by decide)
