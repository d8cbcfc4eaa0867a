theorem sb1_10 : ∀ c, c ≤ 10 → (nI c - 1).toInt = (c : Int) - 1 := by decide
theorem oi {x : Int32} {c : Nat} (hc : c ≤ 10) : (f_of x (nI c) = 0 ∧ f_in x 0 (nI c - 1) = 0) ∨ ∃ w, w < c ∧ x = nI w ∧ f_of x (nI c) = 1 ∧ f_in x 0 (nI c - 1) = 1 := by
  unfold f_of f_in
  by_cases h0 : x < 0
  · rw [if_pos h0, if_pos h0]; exact Or.inl ⟨rfl, rfl⟩
  · rw [if_neg h0, if_neg h0]
    obtain ⟨w, hw, e⟩ := (nI_or x).resolve_left h0
    subst e
    have e1 : nI c ≤ nI w ↔ c ≤ w := by rw [Int32.le_iff_toInt_le, nI_toInt (show c < 2 ^ 31 by omega), nI_toInt hw]; omega
    have e2 : nI c - 1 < nI w ↔ c ≤ w := by rw [Int32.lt_iff_toInt_lt, sb1_10 c hc, nI_toInt hw]; omega
    by_cases h1 : c ≤ w
    · rw [if_pos (e1.mpr h1), if_pos (e2.mpr h1)]; exact Or.inl ⟨rfl, rfl⟩
    · rw [if_neg (fun q => h1 (e1.mp q)), if_neg (fun q => h1 (e2.mp q))]; exact Or.inr ⟨w, by omega, rfl, rfl, rfl⟩
theorem rg {x : Int32} {a c : Nat} (ha : a ≤ c) (hc : c < 2 ^ 31) : (f_in x (nI a) (nI c) = 0 ∧ (x < nI a ∨ nI c < x)) ∨ ∃ w, a ≤ w ∧ w ≤ c ∧ x = nI w ∧ f_in x (nI a) (nI c) = 1 := by
  unfold f_in
  by_cases h0 : x < nI a
  · rw [if_pos h0]; exact Or.inl ⟨rfl, Or.inl h0⟩
  · rw [if_neg h0]
    by_cases h1 : nI c < x
    · rw [if_pos h1]; exact Or.inl ⟨rfl, Or.inr h1⟩
    · rw [if_neg h1]
      have i0 : ¬ x < 0 := fun q => by rw [Int32.lt_iff_toInt_lt] at h0 q; rw [nI_toInt (by omega)] at h0; have : (0 : Int32).toInt = 0 := rfl; omega
      obtain ⟨w, hw, e⟩ := (nI_or x).resolve_left i0
      subst e
      rw [Int32.lt_iff_toInt_lt, nI_toInt hw, nI_toInt (by omega)] at h0 h1
      exact Or.inr ⟨w, by omega, by omega, rfl, rfl⟩
/-- an office that stands -/
def OFF (I : mI) (R : mR) (n k o nh nl nw : Nat) : Prop := k < 2 ∧ f_of (nI k) (I 3 0) = 1 ∧ R 4 k = some o ∧ o ∈ m_offs ∧ offR R o ∧ o + 8 < n ∧ o + 9 ≤ 71 ∧ ∀ K, KP I K → f_in (nI k) 0 (K 100 0 - 1) = 1 ∧ RO I K o k nh nl nw
theorem off_fin {R : mR} (hR : m_fin R) : ∀ k, k < 2 → R 4 k = some (5 + 9 * k) ∧ (5 + 9 * k) ∈ m_offs ∧ offR R (5 + 9 * k) := by
  intro k hk
  rcases (show k = 0 ∨ k = 1 by omega) with e | e
  · subst e
    refine ⟨hR (4, 0, 5) (by decide +kernel), by decide, fun j hj => ?_⟩
    exact (by decide +kernel : ∀ j, j < 8 → (5, 3 + j, 6 + j) ∈ m_refs) j hj |> hR (5, 3 + j, 6 + j)
  · subst e
    refine ⟨hR (4, 1, 14) (by decide +kernel), by decide, fun j hj => ?_⟩
    exact (by decide +kernel : ∀ j, j < 8 → (14, 3 + j, 15 + j) ∈ m_refs) j hj |> hR (14, 3 + j, 15 + j)
theorem INV.off {I : mI} {R : mR} {n : Nat} (h : INV I R n) (x : Int32) : (f_of x (I 3 0) = 0 ∧ ∀ K, KP I K → f_in x 0 (K 100 0 - 1) = 0) ∨ ∃ k o nh nl nw, x = nI k ∧ OFF I R n k o nh nl nw := by
  obtain ⟨c, c2, e1, e2, e3⟩ := h.2.2.1.2.2.1
  have e1 : I 3 0 = nI c := e1
  have e2 : I 100 0 = nI c := e2
  have hn := h.n1.1
  have ek : ∀ K, KP I K → K 100 0 = nI c := fun K kp => by rw [kp.1 100 (by omega)]; exact e2
  rw [e1]
  rcases oi (x := x) (c := c) (by omega) with ⟨a, b⟩ | ⟨w, hw, rfl, a, b⟩
  · exact Or.inl ⟨a, fun K kp => by rw [ek K kp]; exact b⟩
  · obtain ⟨nh, nl, nw, q1, q2⟩ := e3 w hw
    obtain ⟨f1, f2, f3⟩ := off_fin h.1 w (by omega)
    refine Or.inr ⟨w, 5 + 9 * w, nh, nl, nw, rfl, by omega, by rw [e1]; exact a, f1, f2, f3, by omega, by omega, fun K kp => ⟨by rw [ek K kp]; exact b, ?_⟩⟩
    have eD : (fun j => I 101 (75 * (2 * 0 + w) + j)) = oR K w := by
      funext j
      show I 101 (75 * (2 * 0 + w) + j) = K 101 (75 * w + j)
      rw [kp.1 101 (by omega), show 2 * 0 + w = w by omega]
    rw [eD] at q1 q2
    rw [show 1 + 4 + 9 * w = 5 + 9 * w by omega] at q1
    exact ⟨q1, q2⟩
theorem st_mean {S : Nat × (Nat → Int32)} {I : mI} {J : mJ} {R : mR} {n : Nat} (h : INV I R n) (x y u : Int32) : STEP S YS_mean YM_mean [.int x, .int y, .int u] I J R n := by
  have hn := h.n1.1
  have hR := h.1
  have h68 := h.2.1
  rcases h.off x with ⟨h0, hM⟩ | ⟨k, o, nh, nl, nw, rfl, hk, h1, hro, ho, hr, hon, ho9, hK⟩
  · exact st_q h (q_S_mean0 hn hR h0) (fun K J' R' kp hR' => q_M_mean0 hn hR' (hM K kp))
  · have H0 := (hK I KP.refl).2
    have h10 := H0.2.l10
    have h6 := H0.2.nh6
    have hnh1 := H0.2.nh1
    rcases oi (x := y) (c := nh) (by omega) with ⟨a, b⟩ | ⟨w, hw, rfl, a, b⟩
    · exact st_q h (q_S_mean1 hn hR ho hr hon H0.nh H0.2.nh6 H0.nl H0.2.l10 H0.WFc H0.WFh h1 hk hro a) (fun K J' R' kp hR' => q_M_mean1 hn hR' hk (hK K kp).1 (hK K kp).2.2.d0 (hK K kp).2.2.nh6 (hK K kp).2.2.d1 (hK K kp).2.2.l10 (hK K kp).2.WFk (hK K kp).2.WFr b)
    · exact st_q h (q_S_mean2 hn hR ho hr hon H0.nh H0.2.nh6 H0.nl H0.2.l10 H0.WFc H0.WFh h1 hk hro hw) (fun K J' R' kp hR' => by rw [e_mean (hK K kp).2 hw]; exact q_M_mean hn hR' hk (hK K kp).1 (hK K kp).2.2.d0 (hK K kp).2.2.nh6 (hK K kp).2.2.d1 (hK K kp).2.2.l10 (hK K kp).2.WFk (hK K kp).2.WFr hw)
theorem st_dear {S : Nat × (Nat → Int32)} {I : mI} {J : mJ} {R : mR} {n : Nat} (h : INV I R n) (x y : Int32) : STEP S YS_dear YM_dear [.int x, .int y] I J R n := by
  have hn := h.n1.1
  have hR := h.1
  have h68 := h.2.1
  rcases h.off x with ⟨h0, hM⟩ | ⟨k, o, nh, nl, nw, rfl, hk, h1, hro, ho, hr, hon, ho9, hK⟩
  · exact st_q h (q_S_dear0 hn hR h0) (fun K J' R' kp hR' => q_M_dear0 hn hR' (hM K kp))
  · have H0 := (hK I KP.refl).2
    have h10 := H0.2.l10
    have h6 := H0.2.nh6
    have hnh1 := H0.2.nh1
    rcases oi (x := y) (c := nl) (by omega) with ⟨a, b⟩ | ⟨w, hw, rfl, a, b⟩
    · exact st_q h (q_S_dear1 hn hR ho hr hon H0.nh H0.2.nh6 H0.nl H0.2.l10 H0.WFc H0.WFh h1 hk hro a) (fun K J' R' kp hR' => q_M_dear1 hn hR' hk (hK K kp).1 (hK K kp).2.2.d0 (hK K kp).2.2.nh6 (hK K kp).2.2.d1 (hK K kp).2.2.l10 (hK K kp).2.WFk (hK K kp).2.WFr b)
    · exact st_q h (q_S_dear2 hn hR ho hr hon H0.nh H0.2.nh6 H0.nl H0.2.l10 H0.WFc H0.WFh h1 hk hro (fun l hl => (H0.hnh hl).1) hw) (fun K J' R' kp hR' => by rw [e_dear (hK K kp).2 hw h68]; exact q_M_dear hn hR' hk (hK K kp).1 (hK K kp).2.2.d0 (hK K kp).2.2.nh6 (hK K kp).2.2.d1 (hK K kp).2.2.l10 (hK K kp).2.WFk (hK K kp).2.WFr hw)
theorem st_spoilt {S : Nat × (Nat → Int32)} {I : mI} {J : mJ} {R : mR} {n : Nat} (h : INV I R n) (x y u : Int32) : STEP S YS_spoilt YM_spoilt [.int x, .int y, .int u] I J R n := by
  have hn := h.n1.1
  have hR := h.1
  have h68 := h.2.1
  rcases h.off x with ⟨h0, hM⟩ | ⟨k, o, nh, nl, nw, rfl, hk, h1, hro, ho, hr, hon, ho9, hK⟩
  · exact st_q h (q_S_spoilt0 hn hR h0) (fun K J' R' kp hR' => q_M_spoilt0 hn hR' (hM K kp))
  · have H0 := (hK I KP.refl).2
    have h10 := H0.2.l10
    have h6 := H0.2.nh6
    have hnh1 := H0.2.nh1
    rcases oi (x := y) (c := nh) (by omega) with ⟨a, b⟩ | ⟨w, hw, rfl, a, b⟩
    · exact st_q h (q_S_spoilt1 hn hR ho hr hon H0.nh H0.2.nh6 H0.nl H0.2.l10 H0.WFc H0.WFh h1 hk hro a) (fun K J' R' kp hR' => q_M_spoilt1 hn hR' hk (hK K kp).1 (hK K kp).2.2.d0 (hK K kp).2.2.nh6 (hK K kp).2.2.d1 (hK K kp).2.2.l10 (hK K kp).2.WFk (hK K kp).2.WFr b)
    · exact st_q h (q_S_spoilt2 hn hR ho hr hon H0.nh H0.2.nh6 H0.nl H0.2.l10 H0.WFc H0.WFh h1 hk hro hw) (fun K J' R' kp hR' => by rw [e_spoilt (hK K kp).2 hw h68]; exact q_M_spoilt hn hR' hk (hK K kp).1 (hK K kp).2.2.d0 (hK K kp).2.2.nh6 (hK K kp).2.2.d1 (hK K kp).2.2.l10 (hK K kp).2.WFk (hK K kp).2.WFr hw)
theorem st_calm {S : Nat × (Nat → Int32)} {I : mI} {J : mJ} {R : mR} {n : Nat} (h : INV I R n) (x y z u : Int32) : STEP S YS_calm YM_calm [.int x, .int y, .int z, .int u] I J R n := by
  have hn := h.n1.1
  have hR := h.1
  have h68 := h.2.1
  rcases h.off x with ⟨h0, hM⟩ | ⟨k, o, nh, nl, nw, rfl, hk, h1, hro, ho, hr, hon, ho9, hK⟩
  · exact st_q h (q_S_calm0 hn hR h0) (fun K J' R' kp hR' => q_M_calm0 hn hR' (hM K kp))
  · have H0 := (hK I KP.refl).2
    have h10 := H0.2.l10
    have h6 := H0.2.nh6
    have hnh1 := H0.2.nh1
    rcases oi (x := y) (c := nh) (by omega) with ⟨a, b⟩ | ⟨w, hw, rfl, a, b⟩
    · exact st_q h (q_S_calm1 hn hR ho hr hon H0.nh H0.2.nh6 H0.nl H0.2.l10 H0.WFc H0.WFh h1 hk hro a) (fun K J' R' kp hR' => q_M_calm1 hn hR' hk (hK K kp).1 (hK K kp).2.2.d0 (hK K kp).2.2.nh6 (hK K kp).2.2.d1 (hK K kp).2.2.l10 (hK K kp).2.WFk (hK K kp).2.WFr (Or.inr b))
    · rcases rg (x := z) (a := 0) (c := 99) (by decide) (by decide) with ⟨a2, b2⟩ | ⟨m, _, hm, rfl, _⟩
      · exact st_q h (q_S_calm2 hn hR ho hr hon H0.nh H0.2.nh6 H0.nl H0.2.l10 H0.WFc H0.WFh h1 hk hro hw b2) (fun K J' R' kp hR' => q_M_calm1 hn hR' hk (hK K kp).1 (hK K kp).2.2.d0 (hK K kp).2.2.nh6 (hK K kp).2.2.d1 (hK K kp).2.2.l10 (hK K kp).2.WFk (hK K kp).2.WFr (Or.inl a2))
      · exact st_q h (q_S_calm3 hn hR ho hr hon H0.nh H0.2.nh6 H0.nl H0.2.l10 H0.WFc H0.WFh h1 hk hro hw hm) (fun K J' R' kp hR' => by rw [e_calm (hK K kp).2 hw]; exact q_M_calm hn hR' hk (hK K kp).1 (hK K kp).2.2.d0 (hK K kp).2.2.nh6 (hK K kp).2.2.d1 (hK K kp).2.2.l10 (hK K kp).2.WFk (hK K kp).2.WFr hw hm)
theorem st_spared {S : Nat × (Nat → Int32)} {I : mI} {J : mJ} {R : mR} {n : Nat} (h : INV I R n) (x y z t u : Int32) : STEP S YS_spared YM_spared [.int x, .int y, .int z, .int t, .int u] I J R n := by
  have hn := h.n1.1
  have hR := h.1
  have h68 := h.2.1
  rcases h.off x with ⟨h0, hM⟩ | ⟨k, o, nh, nl, nw, rfl, hk, h1, hro, ho, hr, hon, ho9, hK⟩
  · exact st_q h (q_S_spared0 hn hR h0) (fun K J' R' kp hR' => q_M_spared0 hn hR' (hM K kp))
  · have H0 := (hK I KP.refl).2
    have h10 := H0.2.l10
    have h6 := H0.2.nh6
    have hnh1 := H0.2.nh1
    rcases oi (x := y) (c := nh) (by omega) with ⟨a, b⟩ | ⟨w, hw, rfl, a, b⟩
    · exact st_q h (q_S_spared1 hn hR ho hr hon H0.nh H0.2.nh6 H0.nl H0.2.l10 H0.WFc H0.WFh h1 hk hro a) (fun K J' R' kp hR' => q_M_spared1 hn hR' hk (hK K kp).1 (hK K kp).2.2.d0 (hK K kp).2.2.nh6 (hK K kp).2.2.d1 (hK K kp).2.2.l10 (hK K kp).2.WFk (hK K kp).2.WFr (Or.inr (Or.inr b)))
    · rcases rg (x := z) (a := 0) (c := 10) (by decide) (by decide) with ⟨a2, b2⟩ | ⟨p, _, hp, rfl, _⟩
      · exact st_q h (q_S_spared2 hn hR ho hr hon H0.nh H0.2.nh6 H0.nl H0.2.l10 H0.WFc H0.WFh h1 hk hro hw (b2.elim Or.inl (fun q => Or.inr (Or.inl q)))) (fun K J' R' kp hR' => q_M_spared1 hn hR' hk (hK K kp).1 (hK K kp).2.2.d0 (hK K kp).2.2.nh6 (hK K kp).2.2.d1 (hK K kp).2.2.l10 (hK K kp).2.WFk (hK K kp).2.WFr (Or.inl a2))
      · rcases rg (x := t) (a := 0) (c := 99) (by decide) (by decide) with ⟨a3, b3⟩ | ⟨m, _, hm, rfl, _⟩
        · exact st_q h (q_S_spared2 hn hR ho hr hon H0.nh H0.2.nh6 H0.nl H0.2.l10 H0.WFc H0.WFh h1 hk hro hw (Or.inr (Or.inr b3))) (fun K J' R' kp hR' => q_M_spared1 hn hR' hk (hK K kp).1 (hK K kp).2.2.d0 (hK K kp).2.2.nh6 (hK K kp).2.2.d1 (hK K kp).2.2.l10 (hK K kp).2.WFk (hK K kp).2.WFr (Or.inr (Or.inl a3)))
        · exact st_q h (q_S_spared3 hn hR ho hr hon H0.nh H0.2.nh6 H0.nl H0.2.l10 H0.WFc H0.WFh h1 hk hro hw hp hm) (fun K J' R' kp hR' => by rw [e_spared (hK K kp).2 hw hp]; exact q_M_spared hn hR' hk (hK K kp).1 (hK K kp).2.2.d0 (hK K kp).2.2.nh6 (hK K kp).2.2.d1 (hK K kp).2.2.l10 (hK K kp).2.WFk (hK K kp).2.WFr hw hp hm)
theorem st_hoped {S : Nat × (Nat → Int32)} {I : mI} {J : mJ} {R : mR} {n : Nat} (h : INV I R n) (x y u : Int32) : STEP S YS_hoped YM_hoped [.int x, .int y, .int u] I J R n := by
  have hn := h.n1.1
  have hR := h.1
  have h68 := h.2.1
  rcases h.off x with ⟨h0, hM⟩ | ⟨k, o, nh, nl, nw, rfl, hk, h1, hro, ho, hr, hon, ho9, hK⟩
  · exact st_q h (q_S_hoped0 hn hR h0) (fun K J' R' kp hR' => q_M_hoped0 hn hR' (hM K kp))
  · have H0 := (hK I KP.refl).2
    have h10 := H0.2.l10
    have h6 := H0.2.nh6
    have hnh1 := H0.2.nh1
    rcases rg (x := y) (a := 0) (c := nl) (by omega) (by omega) with ⟨a, b⟩ | ⟨w, _, hw, rfl, _⟩
    · exact st_q h (q_S_hoped1 hn hR ho hr hon H0.nh H0.2.nh6 H0.nl H0.2.l10 H0.WFc H0.WFh h1 hk hro b) (fun K J' R' kp hR' => q_M_hoped1 hn hR' hk (hK K kp).1 (hK K kp).2.2.d0 (hK K kp).2.2.nh6 (hK K kp).2.2.d1 (hK K kp).2.2.l10 (hK K kp).2.WFk (hK K kp).2.WFr a)
    · exact st_q h (q_S_hoped2 hn hR ho hr hon H0.nh H0.2.nh6 H0.nl H0.2.l10 H0.WFc H0.WFh h1 hk hro hw) (fun K J' R' kp hR' => by rw [e_hoped (hK K kp).2]; exact q_M_hoped hn hR' hk (hK K kp).1 (hK K kp).2.2.d0 (hK K kp).2.2.nh6 (hK K kp).2.2.d1 (hK K kp).2.2.l10 (hK K kp).2.WFk (hK K kp).2.WFr hw)
theorem st_rack {S : Nat × (Nat → Int32)} {I : mI} {J : mJ} {R : mR} {n : Nat} (h : INV I R n) (x y z : Int32) : STEP S YS_rack YM_rack [.int x, .int y, .int z] I J R n := by
  have hn := h.n1.1
  have hR := h.1
  have h68 := h.2.1
  rcases h.off x with ⟨h0, hM⟩ | ⟨k, o, nh, nl, nw, rfl, hk, h1, hro, ho, hr, hon, ho9, hK⟩
  · exact st_q h (q_S_rack0 hn hR h0) (fun K J' R' kp hR' => q_M_rack0 hn hR' (hM K kp))
  · have H0 := (hK I KP.refl).2
    have h10 := H0.2.l10
    have h6 := H0.2.nh6
    have hnh1 := H0.2.nh1
    rcases oi (x := y) (c := nl) (by omega) with ⟨a, b⟩ | ⟨w, hw, rfl, a, b⟩
    · exact st_q h (q_S_rack1 hn hR ho hr hon H0.nh H0.2.nh6 H0.nl H0.2.l10 H0.WFc H0.WFh h1 hk hro (Or.inl a)) (fun K J' R' kp hR' => q_M_rack1 hn hR' hk (hK K kp).1 (hK K kp).2.2.d0 (hK K kp).2.2.nh6 (hK K kp).2.2.d1 (hK K kp).2.2.l10 (hK K kp).2.WFk (hK K kp).2.WFr (Or.inl b))
    · rcases rg (x := z) (a := 0) (c := 999) (by decide) (by decide) with ⟨a2, b2⟩ | ⟨p, _, hp, rfl, _⟩
      · exact st_q h (q_S_rack1 hn hR ho hr hon H0.nh H0.2.nh6 H0.nl H0.2.l10 H0.WFc H0.WFh h1 hk hro (Or.inr b2)) (fun K J' R' kp hR' => q_M_rack1 hn hR' hk (hK K kp).1 (hK K kp).2.2.d0 (hK K kp).2.2.nh6 (hK K kp).2.2.d1 (hK K kp).2.2.l10 (hK K kp).2.WFk (hK K kp).2.WFr (Or.inr a2))
      · exact st_q h (q_S_rack2 hn hR ho hr hon H0.nh H0.2.nh6 H0.nl H0.2.l10 H0.WFc H0.WFh h1 hk hro hw hp) (fun K J' R' kp hR' => by rw [e_rack (hK K kp).2]; exact q_M_rack hn hR' hk (hK K kp).1 (hK K kp).2.2.d0 (hK K kp).2.2.nh6 (hK K kp).2.2.d1 (hK K kp).2.2.l10 (hK K kp).2.WFk (hK K kp).2.WFr hw hp)
theorem st_drawn {S : Nat × (Nat → Int32)} {I : mI} {J : mJ} {R : mR} {n : Nat} (h : INV I R n) (x y z t : Int32) : STEP S YS_drawn YM_drawn [.int x, .int y, .int z, .int t] I J R n := by
  have hn := h.n1.1
  have hR := h.1
  have h68 := h.2.1
  rcases h.off x with ⟨h0, hM⟩ | ⟨k, o, nh, nl, nw, rfl, hk, h1, hro, ho, hr, hon, ho9, hK⟩
  · exact st_q h (q_S_drawn0 hn hR h0) (fun K J' R' kp hR' => q_M_drawn0 hn hR' (hM K kp))
  · have H0 := (hK I KP.refl).2
    have h10 := H0.2.l10
    have h6 := H0.2.nh6
    have hnh1 := H0.2.nh1
    rcases rg (x := z) (a := 0) (c := 60) (by decide) (by decide) with ⟨a2, b2⟩ | ⟨p, _, hp, rfl, _⟩
    · exact st_q h (q_S_drawn1 hn hR ho hr hon H0.nh H0.2.nh6 H0.nl H0.2.l10 H0.WFc H0.WFh h1 hk hro b2) (fun K J' R' kp hR' => q_M_drawn1 hn hR' hk (hK K kp).1 (hK K kp).2.2.d0 (hK K kp).2.2.nh6 (hK K kp).2.2.d1 (hK K kp).2.2.l10 (hK K kp).2.WFk (hK K kp).2.WFr a2)
    · exact st_q h (q_S_drawn2 hn hR ho hr hon H0.nh H0.2.nh6 H0.nl H0.2.l10 H0.WFc H0.WFh h1 hk hro hnh1 hp) (fun K J' R' kp hR' => by rw [e_drawn (hK K kp).2]; exact q_M_drawn hn hR' hk (hK K kp).1 (hK K kp).2.2.d0 (hK K kp).2.2.nh6 (hK K kp).2.2.d1 (hK K kp).2.2.l10 (hK K kp).2.WFk (hK K kp).2.WFr hnh1 hp)
theorem st_strike {S : Nat × (Nat → Int32)} {I : mI} {J : mJ} {R : mR} {n : Nat} (h : INV I R n) (x y u : Int32) : STEP S YS_strike YM_strike [.int x, .int y, .int u] I J R n := by
  have hn := h.n1.1
  have hR := h.1
  have h68 := h.2.1
  rcases h.off x with ⟨h0, hM⟩ | ⟨k, o, nh, nl, nw, rfl, hk, h1, hro, ho, hr, hon, ho9, hK⟩
  · exact st_q h (q_S_strike0 hn hR h0) (fun K J' R' kp hR' => q_M_strike0 hn hR' (hM K kp))
  · have H0 := (hK I KP.refl).2
    have h10 := H0.2.l10
    have h6 := H0.2.nh6
    have hnh1 := H0.2.nh1
    rcases rg (x := y) (a := 0) (c := 3) (by decide) (by decide) with ⟨a2, b2⟩ | ⟨p, _, hp, rfl, _⟩
    · exact st_q h (q_S_strike1 hn hR ho hr hon H0.nh H0.2.nh6 H0.nl H0.2.l10 H0.WFc H0.WFh h1 hk hro (b2.elim Or.inl (fun q => Or.inr (Or.inl q)))) (fun K J' R' kp hR' => q_M_strike1 hn hR' hk (hK K kp).1 (hK K kp).2.2.d0 (hK K kp).2.2.nh6 (hK K kp).2.2.d1 (hK K kp).2.2.l10 (hK K kp).2.WFk (hK K kp).2.WFr (Or.inl a2))
    · rcases Nat.lt_or_ge nl p with c | c
      · have c2 : nI nl < nI p := by rw [Int32.lt_iff_toInt_lt, nI_toInt (by omega), nI_toInt (by omega)]; omega
        exact st_q h (q_S_strike1 hn hR ho hr hon H0.nh H0.2.nh6 H0.nl H0.2.l10 H0.WFc H0.WFh h1 hk hro (Or.inr (Or.inr c2))) (fun K J' R' kp hR' => q_M_strike1 hn hR' hk (hK K kp).1 (hK K kp).2.2.d0 (hK K kp).2.2.nh6 (hK K kp).2.2.d1 (hK K kp).2.2.l10 (hK K kp).2.WFk (hK K kp).2.WFr (Or.inr c2))
      · obtain ⟨a, b, g1, g2, g3, g4, _⟩ := e_strike (u := u) H0 c hp
        exact st_q h (q_S_strike2 hn hR ho hr hon H0.nh H0.2.nh6 H0.nl H0.2.l10 H0.WFc H0.WFh h1 hk hro c hp g1 g2 g3 g4) (fun K J' R' kp hR' => by
          obtain ⟨a', b', g1', _, _, _, g5⟩ := e_strike (u := u) (hK K kp).2 c hp
          rw [g1] at g1'
          obtain ⟨rfl, rfl⟩ := Prod.mk.inj g1'
          rw [g5]; exact q_M_strike hn hR' hk (hK K kp).1 (hK K kp).2.2.d0 (hK K kp).2.2.nh6 (hK K kp).2.2.d1 (hK K kp).2.2.l10 (hK K kp).2.WFk (hK K kp).2.WFr hnh1 c hp)
theorem st_sorters {S : Nat × (Nat → Int32)} {I : mI} {J : mJ} {R : mR} {n : Nat} (h : INV I R n) (x u : Int32) : STEP S YS_sorters YM_sorters [.int x, .int u] I J R n := by
  have hn := h.n1.1
  have hR := h.1
  have h68 := h.2.1
  rcases h.off x with ⟨h0, hM⟩ | ⟨k, o, nh, nl, nw, rfl, hk, h1, hro, ho, hr, hon, ho9, hK⟩
  · exact st_q h (q_S_sorters0 hn hR h0) (fun K J' R' kp hR' => q_M_sorters0 hn hR' (hM K kp))
  · have H0 := (hK I KP.refl).2
    have h10 := H0.2.l10
    have h6 := H0.2.nh6
    have hnh1 := H0.2.nh1
    exact st_q h (q_S_sorters2 hn hR ho hr hon H0.nh H0.2.nh6 H0.nl H0.2.l10 H0.WFc H0.WFh h1 hk hro) (fun K J' R' kp hR' => by rw [e_sorters (hK K kp).2]; exact q_M_sorters hn hR' hk (hK K kp).1 (hK K kp).2.2.d0 (hK K kp).2.2.nh6 (hK K kp).2.2.d1 (hK K kp).2.2.l10 (hK K kp).2.WFk (hK K kp).2.WFr)
theorem st_swapped {S : Nat × (Nat → Int32)} {I : mI} {J : mJ} {R : mR} {n : Nat} (h : INV I R n) (x u : Int32) : STEP S YS_swapped YM_swapped [.int x, .int u] I J R n := by
  have hn := h.n1.1
  have hR := h.1
  have h68 := h.2.1
  rcases h.off x with ⟨h0, hM⟩ | ⟨k, o, nh, nl, nw, rfl, hk, h1, hro, ho, hr, hon, ho9, hK⟩
  · exact st_q h (q_S_swapped0 hn hR h0) (fun K J' R' kp hR' => q_M_swapped0 hn hR' (hM K kp))
  · have H0 := (hK I KP.refl).2
    have h10 := H0.2.l10
    have h6 := H0.2.nh6
    have hnh1 := H0.2.nh1
    exact st_q h (q_S_swapped2 hn hR ho hr hon H0.nh H0.2.nh6 H0.nl H0.2.l10 H0.WFc H0.WFh h1 hk hro (Or.inr ho9)) (fun K J' R' kp hR' => by rw [e_swapped (hK K kp).2 h68]; exact q_M_swapped hn hR' hk (hK K kp).1 (hK K kp).2.2.d0 (hK K kp).2.2.nh6 (hK K kp).2.2.d1 (hK K kp).2.2.l10 (hK K kp).2.WFk (hK K kp).2.WFr)
theorem st_strongest {S : Nat × (Nat → Int32)} {I : mI} {J : mJ} {R : mR} {n : Nat} (h : INV I R n) (x u : Int32) : STEP S YS_strongest YM_strongest [.int x, .int u] I J R n := by
  have hn := h.n1.1
  have hR := h.1
  have h68 := h.2.1
  rcases h.off x with ⟨h0, hM⟩ | ⟨k, o, nh, nl, nw, rfl, hk, h1, hro, ho, hr, hon, ho9, hK⟩
  · exact st_q h (q_S_strongest0 hn hR h0) (fun K J' R' kp hR' => q_M_strongest0 hn hR' (hM K kp))
  · have H0 := (hK I KP.refl).2
    have h10 := H0.2.l10
    have h6 := H0.2.nh6
    have hnh1 := H0.2.nh1
    by_cases c : I o 2 = 0
    · have hz : nw = 0 := by
        have e := H0.1.a2
        rw [c] at e
        have := congrArg Int32.toNatClampNeg e
        rw [nI_clamp (by have := H0.2.w8; omega)] at this
        exact this.symm
      exact st_q h (q_S_strongest1 hn hR ho hr hon H0.nh H0.2.nh6 H0.nl H0.2.l10 H0.WFc H0.WFh h1 hk hro c) (fun K J' R' kp hR' => by rw [← e_strongest0 (u := u) (hK K kp).2 h68 hz]; exact q_M_strongest hn hR' hk (hK K kp).1 (hK K kp).2.2.d0 (hK K kp).2.2.nh6 (hK K kp).2.2.d1 (hK K kp).2.2.l10 (hK K kp).2.WFk (hK K kp).2.WFr)
    · exact st_q h (q_S_strongest2 hn hR ho hr hon H0.nh H0.2.nh6 H0.nl H0.2.l10 H0.WFc H0.WFh h1 hk hro (Or.inr ho9) c) (fun K J' R' kp hR' => by rw [e_strongest (hK K kp).2 h68]; exact q_M_strongest hn hR' hk (hK K kp).1 (hK K kp).2.2.d0 (hK K kp).2.2.nh6 (hK K kp).2.2.d1 (hK K kp).2.2.l10 (hK K kp).2.WFk (hK K kp).2.WFr)
