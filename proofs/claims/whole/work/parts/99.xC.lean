def WKK (I : mI) (R : mR) (n k w c : Nat) : Prop := k < 2 ∧ f_of (nI k) (I 3 1) = 1 ∧ R 23 k = some w ∧ w ∈ m_wks ∧ wkR R w ∧ w + 3 < n ∧ ∀ K, KP I K → f_in (nI k) 0 (K 100 1 - 1) = 1 ∧ RW I K w k c
def LGG (I : mI) (R : mR) (n k g c : Nat) : Prop := k < 2 ∧ f_of (nI k) (I 3 2) = 1 ∧ R 32 k = some g ∧ g ∈ m_lgs ∧ lgR R g ∧ g + 2 < n ∧ ∀ K, KP I K → f_in (nI k) 0 (K 100 2 - 1) = 1 ∧ RG I K g k c
theorem wk_fin {R : mR} (hR : m_fin R) : ∀ k, k < 2 → R 23 k = some (24 + 4 * k) ∧ (24 + 4 * k) ∈ m_wks ∧ wkR R (24 + 4 * k) := by
  intro k hk
  rcases (show k = 0 ∨ k = 1 by omega) with e | e
  · subst e
    refine ⟨hR (23, 0, 24) (by decide +kernel), by decide, fun j hj => ?_⟩
    exact (by decide +kernel : ∀ j, j < 3 → (24, 1 + j, 25 + j) ∈ m_refs) j hj |> hR (24, 1 + j, 25 + j)
  · subst e
    refine ⟨hR (23, 1, 28) (by decide +kernel), by decide, fun j hj => ?_⟩
    exact (by decide +kernel : ∀ j, j < 3 → (28, 1 + j, 29 + j) ∈ m_refs) j hj |> hR (28, 1 + j, 29 + j)
theorem lg_fin {R : mR} (hR : m_fin R) : ∀ k, k < 2 → R 32 k = some (33 + 3 * k) ∧ (33 + 3 * k) ∈ m_lgs ∧ lgR R (33 + 3 * k) := by
  intro k hk
  rcases (show k = 0 ∨ k = 1 by omega) with e | e
  · subst e
    refine ⟨hR (32, 0, 33) (by decide +kernel), by decide, fun j hj => ?_⟩
    exact (by decide +kernel : ∀ j, j < 2 → (33, 1 + j, 34 + j) ∈ m_refs) j hj |> hR (33, 1 + j, 34 + j)
  · subst e
    refine ⟨hR (32, 1, 36) (by decide +kernel), by decide, fun j hj => ?_⟩
    exact (by decide +kernel : ∀ j, j < 2 → (36, 1 + j, 37 + j) ∈ m_refs) j hj |> hR (36, 1 + j, 37 + j)
theorem INV.wk {I : mI} {R : mR} {n : Nat} (h : INV I R n) (x : Int32) : (f_of x (I 3 1) = 0 ∧ ∀ K, KP I K → f_in x 0 (K 100 1 - 1) = 0) ∨ ∃ k w c, x = nI k ∧ WKK I R n k w c := by
  obtain ⟨c, c2, e1, e2, e3⟩ := h.2.2.1.2.2.2.1
  have e1 : I 3 1 = nI c := e1
  have e2 : I 100 1 = nI c := e2
  have hn := h.n1.1
  have ek : ∀ K, KP I K → K 100 1 = nI c := fun K kp => by rw [kp.1 100 (by omega)]; exact e2
  rw [e1]
  rcases oi (x := x) (c := c) (by omega) with ⟨a, b⟩ | ⟨w, hw, rfl, a, b⟩
  · exact Or.inl ⟨a, fun K kp => by rw [ek K kp]; exact b⟩
  · obtain ⟨e, q1, q2⟩ := e3 w hw
    obtain ⟨f1, f2, f3⟩ := wk_fin h.1 w (by omega)
    refine Or.inr ⟨w, 24 + 4 * w, e, rfl, by omega, by rw [e1]; exact a, f1, f2, f3, by omega, fun K kp => ⟨by rw [ek K kp]; exact b, ?_⟩⟩
    have eD : (fun j => I 102 (121 * (2 * 0 + w) + j)) = fun j => K 102 (121 * w + j) := by
      funext j
      rw [kp.1 102 (by omega), show 2 * 0 + w = w by omega]
    rw [eD] at q1 q2
    rw [show 1 + 23 + 4 * w = 24 + 4 * w by omega] at q1
    exact ⟨q1, q2⟩
theorem INV.lg {I : mI} {R : mR} {n : Nat} (h : INV I R n) (x : Int32) : (f_of x (I 3 2) = 0 ∧ ∀ K, KP I K → f_in x 0 (K 100 2 - 1) = 0) ∨ ∃ k g c, x = nI k ∧ LGG I R n k g c := by
  obtain ⟨c, c2, e1, e2, e3⟩ := h.2.2.1.2.2.2.2
  have e1 : I 3 2 = nI c := e1
  have e2 : I 100 2 = nI c := e2
  have hn := h.n1.1
  have ek : ∀ K, KP I K → K 100 2 = nI c := fun K kp => by rw [kp.1 100 (by omega)]; exact e2
  rw [e1]
  rcases oi (x := x) (c := c) (by omega) with ⟨a, b⟩ | ⟨w, hw, rfl, a, b⟩
  · exact Or.inl ⟨a, fun K kp => by rw [ek K kp]; exact b⟩
  · obtain ⟨e, q1, q2⟩ := e3 w hw
    obtain ⟨f1, f2, f3⟩ := lg_fin h.1 w (by omega)
    refine Or.inr ⟨w, 33 + 3 * w, e, rfl, by omega, by rw [e1]; exact a, f1, f2, f3, by omega, fun K kp => ⟨by rw [ek K kp]; exact b, ?_⟩⟩
    have eD : (fun j => I 103 (17 * (2 * 0 + w) + j)) = fun j => K 103 (17 * w + j) := by
      funext j
      rw [kp.1 103 (by omega), show 2 * 0 + w = w by omega]
    rw [eD] at q1 q2
    rw [show 1 + 32 + 3 * w = 33 + 3 * w by omega] at q1
    exact ⟨q1, q2⟩
theorem fitL_P {P : Nat → Bool} : ∀ k i, i < (fitL P k).length → P ((fitL P k).getD i 0) = true := by
  intro k
  induction k with
  | zero => intro i hi; exact absurd hi (Nat.not_lt_zero _)
  | succ k ih =>
    intro i hi
    have e : fitL P (k + 1) = if P k = true then fitL P k ++ [k] else fitL P k := rfl
    rw [e] at hi ⊢
    by_cases c : P k = true
    · rw [if_pos c] at hi ⊢
      rw [List.length_append] at hi
      have hi : i < (fitL P k).length + 1 := hi
      rw [getD_app]
      by_cases d : i < (fitL P k).length
      · rw [if_pos d]; exact ih i d
      · rw [if_neg d, if_pos (by omega)]; exact c
    · rw [if_neg c] at hi ⊢; exact ih i hi
theorem ft_rng {I : mI} {o g c nh nl v : Nat} (h6 : nh ≤ 6) (d : v < (ftL I o g c nh nl 100).length) : (ftL I o g c nh nl 100).getD v 0 < 60 ∨ (ftL I o g c nh nl 100).getD v 0 = 99 := by
  have := of_decide_eq_true (fitL_P (P := ftP I o g c nh nl) 100 v d)
  rcases this.1 with q | q
  · exact Or.inr q
  · exact Or.inl (show (fitL (ftP I o g c nh nl) 100).getD v 0 < 60 by omega)
theorem RG.hF {I K : mI} {g kg c : Nat} (G : RG I K g kg c) : ∀ k, k < c → I (g + 1) k = nI (hmN (I (g + 1)) k) ∧ hmN (I (g + 1)) k < 6 := fun k hk => by
  obtain ⟨q, h1, h2, h3, _⟩ := G.q hk
  rw [h3]; exact ⟨h2, h1⟩
theorem kp_cd {K : mI} : KP K (cdI K) := KP.refl.up (by omega)
theorem kp_hd {K : mI} {ko : Nat} : KP K (hdI (cdI K) ko) := kp_cd.hd
theorem kp_31 {K : mI} {y : Int32} : KP K (m_up (cdI K) 95 31 y) := kp_cd.up (by omega)
theorem kp_47 {K : mI} {y : Int32} : KP K (m_up (cdI K) 95 47 y) := kp_cd.up (by omega)
theorem kp_la {K : mI} {ko kw : Nat} : KP K (laI K ko kw) := kp_31.hd
theorem kp_cr {K X : mI} {s : cS} (h : KP K X) : KP K (crT X s) := h.cR
theorem kp_cc {I : mI} {s : cS} {p : Int32 × Int32} : KP I (ccT I s p) := KP.refl.c60
theorem kf_60 {R : mR} {r : Option Nat} (h : m_fin R) : KF R (m_up R 60 0 r) := (KF.refl h).up60
theorem st_till {S : Nat × (Nat → Int32)} {I : mI} {J : mJ} {R : mR} {n : Nat} (h : INV I R n) (x y : Int32) : STEP S YS_till YM_till [.int x, .int y] I J R n := by
  have hn := h.n1.1
  have hR := h.1
  have h68 := h.2.1
  rcases h.off x with ⟨h0, hM⟩ | ⟨k, o, nh, nl, nw, rfl, hk, h1, hro, ho, hr, hon, ho9, hK⟩
  · rcases h.wk y with ⟨g0, gM⟩ | ⟨kw, w, c, rfl, hk2, h2, hrw, hw, hwr, hwn, hV⟩
    · exact st_q h (q_run (c_S_till00 hn hR h0 g0) KP.refl hR) (fun K J' R' kp hR' => q_run (c_M_till0 hn hR' (Or.inl (hM K kp))) kp_31 hR')
    · exact st_q h (q_run (c_S_till01 hn hR rfl h0 h2 hk2 hrw) KP.refl hR) (fun K J' R' kp hR' => q_run (c_M_till0 hn hR' (Or.inl (hM K kp))) kp_31 hR')
  · have H0 := (hK I KP.refl).2
    rcases h.wk y with ⟨g0, gM⟩ | ⟨kw, w, c, rfl, hk2, h2, hrw, hw, hwr, hwn, hV⟩
    · exact st_q h (q_run (c_S_till10 hn hR rfl h1 hk hro g0) KP.refl hR) (fun K J' R' kp hR' => q_run (c_M_till0 hn hR' (Or.inr (gM K kp))) kp_31 hR')
    · have V0 := (hV I KP.refl).2
      exact st_q h (q_run2 (c_S_till1 hn hR h1 hk hro h2 hk2 ho hr hon H0.nh H0.2.nh6 H0.nl H0.2.l10 hw hwr hwn hrw V0.c V0.1.c40 V0.WFwc H0.WFc H0.WFh) kp_cc (kf_60 hR)) (fun K J' R' kp hR' => by rw [e_till (hK K kp).2 (hV K kp).2]; exact q_run (c_M_till1 hn hR' hk hk2 (hK K kp).1 (hV K kp).1 (hK K kp).2.2.d0 (hK K kp).2.2.nh6 (hK K kp).2.2.d1 (hK K kp).2.2.l10 (hK K kp).2.WFk (hK K kp).2.WFr (hV K kp).2.k (hV K kp).2.1.c40 (hV K kp).2.WFw) (kp_cr kp_la) hR')
theorem st_state {S : Nat × (Nat → Int32)} {I : mI} {J : mJ} {R : mR} {n : Nat} (h : INV I R n) (x y z t : Int32) : STEP S YS_state YM_state [.int x, .int y, .int z, .int t] I J R n := by
  have hn := h.n1.1
  have hR := h.1
  have h68 := h.2.1
  rcases h.off x with ⟨h0, hM⟩ | ⟨k, o, nh, nl, nw, rfl, hk, h1, hro, ho, hr, hon, ho9, hK⟩
  · rcases h.wk y with ⟨g0, gM⟩ | ⟨kw, w, c, rfl, hk2, h2, hrw, hw, hwr, hwn, hV⟩
    · exact st_q h (q_run (c_S_state00 hn hR h0 g0) KP.refl hR) (fun K J' R' kp hR' => q_run (c_M_state0 hn hR' (Or.inl (hM K kp))) kp_31 hR')
    · exact st_q h (q_run (c_S_state01 hn hR rfl h0 h2 hk2 hrw) KP.refl hR) (fun K J' R' kp hR' => q_run (c_M_state0 hn hR' (Or.inl (hM K kp))) kp_31 hR')
  · have H0 := (hK I KP.refl).2
    rcases h.wk y with ⟨g0, gM⟩ | ⟨kw, w, c, rfl, hk2, h2, hrw, hw, hwr, hwn, hV⟩
    · exact st_q h (q_run (c_S_state10 hn hR rfl h1 hk hro g0) KP.refl hR) (fun K J' R' kp hR' => q_run (c_M_state0 hn hR' (Or.inr (gM K kp))) kp_31 hR')
    · have V0 := (hV I KP.refl).2
      have c40 := V0.1.c40
      rcases rg (x := z) (a := 0) (c := c) (by omega) (by omega) with ⟨a, b⟩ | ⟨N, _, hN, rfl, b⟩
      · exact st_q h (q_run (c_S_state1 hn hR h1 hk hro h2 hk2 ho hr hon H0.nh H0.2.nh6 H0.nl H0.2.l10 hw hwr hwn hrw V0.c V0.1.c40 V0.WFwc H0.WFc H0.WFh b) KP.refl hR) (fun K J' R' kp hR' => q_run (c_M_state1 hn hR' hk hk2 (hK K kp).1 (hV K kp).1 (hK K kp).2.2.d0 (hK K kp).2.2.nh6 (hK K kp).2.2.d1 (hK K kp).2.2.l10 (hK K kp).2.WFk (hK K kp).2.WFr (hV K kp).2.k (hV K kp).2.1.c40 (hV K kp).2.WFw a) kp_la hR')
      · exact st_q h (q_run2 (c_S_state2 hn hR h1 hk hro h2 hk2 ho hr hon H0.nh H0.2.nh6 H0.nl H0.2.l10 hw hwr hwn hrw V0.c V0.1.c40 V0.WFwc H0.WFc H0.WFh hN) kp_cc (kf_60 hR)) (fun K J' R' kp hR' => by rw [e_state (hK K kp).2 (hV K kp).2 hN]; exact q_run (c_M_state2 hn hR' hk hk2 (hK K kp).1 (hV K kp).1 (hK K kp).2.2.d0 (hK K kp).2.2.nh6 (hK K kp).2.2.d1 (hK K kp).2.2.l10 (hK K kp).2.WFk (hK K kp).2.WFr (hV K kp).2.k (hV K kp).2.1.c40 (hV K kp).2.WFw (by rw [show f_in (nI N) 0 (nI c) = 1 from b]; decide) hN) (kp_cr kp_la) hR')
theorem st_after {S : Nat × (Nat → Int32)} {I : mI} {J : mJ} {R : mR} {n : Nat} (h : INV I R n) (x y z : Int32) : STEP S YS_after YM_after [.int x, .int y, .int z] I J R n := by
  have hn := h.n1.1
  have hR := h.1
  have h68 := h.2.1
  rcases h.off x with ⟨h0, hM⟩ | ⟨k, o, nh, nl, nw, rfl, hk, h1, hro, ho, hr, hon, ho9, hK⟩
  · rcases h.wk y with ⟨g0, gM⟩ | ⟨kw, w, c, rfl, hk2, h2, hrw, hw, hwr, hwn, hV⟩
    · exact st_q h (q_run (c_S_after00 hn hR h0 g0) KP.refl hR) (fun K J' R' kp hR' => q_M_after0w hn hR' (gM K kp))
    · exact st_q h (q_run (c_S_after01 hn hR rfl h0 h2 hk2 hrw) KP.refl hR) (fun K J' R' kp hR' => q_M_after0o hn hR' (hM K kp) (by rw [(hV K kp).1]; decide))
  · have H0 := (hK I KP.refl).2
    rcases h.wk y with ⟨g0, gM⟩ | ⟨kw, w, c, rfl, hk2, h2, hrw, hw, hwr, hwn, hV⟩
    · exact st_q h (q_run (c_S_after10 hn hR rfl h1 hk hro g0) KP.refl hR) (fun K J' R' kp hR' => q_M_after0w hn hR' (gM K kp))
    · have V0 := (hV I KP.refl).2
      refine st_q h (q_run2 (c_S_after1 hn hR h1 hk hro h2 hk2 ho hr hon H0.nh H0.2.nh6 H0.nl H0.2.l10 hw hwr hwn hrw V0.c V0.1.c40 V0.WFwc H0.WFc H0.WFh (x := z)) kp_cc (kf_60 hR)) (fun K J' R' kp hR' => ?_)
      rcases rg (x := z) (a := 0) (c := 3) (by decide) (by decide) with ⟨a, b⟩ | ⟨N, _, hN, rfl, b⟩
      · have e : ∀ (s : cS) (p : Int32 × Int32), afF s p z = -1000 := fun s p => by
          have n0 : ∀ j, j ≤ 3 → ¬ z = nI j := fun j hj q => by
            subst q
            rcases b with b | b
            · exact absurd ((nI_lt' (by omega) (by decide)).mp b) (by omega)
            · exact absurd ((nI_lt' (by decide) (by omega)).mp b) (by omega)
          unfold afF
          rw [if_neg (show ¬ z = 0 from n0 0 (by decide)), if_neg (show ¬ z = 1 from n0 1 (by decide)), if_neg (show ¬ z = 2 from n0 2 (by decide)), if_neg (show ¬ z = 3 from n0 3 (by decide))]
        rw [e]; exact q_M_after1 hn hR' hk (hK K kp).1 (hK K kp).2.2.d0 (hK K kp).2.2.nh6 (hK K kp).2.2.d1 (hK K kp).2.2.l10 (hK K kp).2.WFk (hK K kp).2.WFr hk2 (hV K kp).1 (hV K kp).2.k (hV K kp).2.1.c40 (hV K kp).2.WFw a
      · rw [e_after (hK K kp).2 (hV K kp).2]; exact q_M_after hn hR' hk (hK K kp).1 (hK K kp).2.2.d0 (hK K kp).2.2.nh6 (hK K kp).2.2.d1 (hK K kp).2.2.l10 (hK K kp).2.WFk (hK K kp).2.WFr hk2 (hV K kp).1 (hV K kp).2.k (hV K kp).2.1.c40 (hV K kp).2.WFw b
theorem st_fits {S : Nat × (Nat → Int32)} {I : mI} {J : mJ} {R : mR} {n : Nat} (h : INV I R n) (x y z : Int32) : STEP S YS_fits YM_fits [.int x, .int y, .int z] I J R n := by
  have hn := h.n1.1
  have hR := h.1
  have h68 := h.2.1
  rcases h.off x with ⟨h0, hM⟩ | ⟨k, o, nh, nl, nw, rfl, hk, h1, hro, ho, hr, hon, ho9, hK⟩
  · rcases h.lg y with ⟨g0, gM⟩ | ⟨kg, g, c, rfl, hkg, hlg1, hrog, hg, hgr, hgn, hV⟩
    · exact st_q h (q_S_fits00 hn hR h0 g0) (fun K J' R' kp hR' => q_M_fits0w hn hR' (gM K kp))
    · exact st_q h (q_S_fits01 hn hR rfl h0 hlg1 hkg hrog) (fun K J' R' kp hR' => q_M_fits0o hn hR' (hM K kp) (by rw [(hV K kp).1]; decide))
  · have H0 := (hK I KP.refl).2
    have h6 := H0.2.nh6
    rcases h.lg y with ⟨g0, gM⟩ | ⟨kg, g, c, rfl, hkg, hlg1, hrog, hg, hgr, hgn, hV⟩
    · exact st_q h (q_S_fits10 hn hR rfl h1 hk hro g0) (fun K J' R' kp hR' => q_M_fits0w hn hR' (gM K kp))
    · have V0 := (hV I KP.refl).2
      by_cases a : aiV I g c nh = 0
      · exact st_q h (q_S_fits1 hn hR ho hr hon H0.nh H0.2.nh6 H0.nl H0.2.l10 H0.WFc H0.WFh hg hgr hgn V0.1.a0 V0.1.c8 V0.hF h1 hk hro hlg1 hkg hrog a) (fun K J' R' kp hR' => q_M_fits1 hn hR' hk (hK K kp).1 (hK K kp).2.2.d0 (hK K kp).2.2.nh6 (hK K kp).2.2.d1 (hK K kp).2.2.l10 (hK K kp).2.WFk (hK K kp).2.WFr hkg (hV K kp).1 (hV K kp).2.2.d0 (hV K kp).2.1.c8 (((hV K kp).2.ai h6).elim (fun q => q.2) (fun q => absurd a q.1)))
      · have wf : ∀ K, KP I K → WFg K kg c nh := fun K kp => ((hV K kp).2.ai h6).elim (fun q => absurd q.1 a) (fun q => q.2)
        by_cases d : z < nI 10
        · exact st_q h (q_S_fitsLo hn hR ho hr hon H0.nh H0.2.nh6 H0.nl H0.2.l10 H0.WFc H0.WFh hg hgr hgn V0.1.a0 V0.1.c8 V0.hF h1 hk hro hlg1 hkg hrog a d (fun C M X md ls cm hL => e_fitsLo H0 V0 (wf I KP.refl) hL)) (fun K J' R' kp hR' => by
            have eq : ∀ (C M : Nat → Int32), RL I o nl C M (ftL I o g c nh nl 100) → ftF (lyM (lgI I k kg) (lyT (lgI I k kg) k nh nl kg c)) k nh nl (ftR (lgI I k kg) k nh nl kg c 100).length z = ftF (lyM (lgI K k kg) (lyT (lgI K k kg) k nh nl kg c)) k nh nl (ftR (lgI K k kg) k nh nl kg c 100).length z := fun C M hL => (e_fitsLo (F := fun _ => 0) (X := fun _ => 0) (md := fun _ => 0) (ls := fun _ => 0) (cm := fun _ => 0) H0 V0 (wf I KP.refl) hL).symm.trans (e_fitsLo (hK K kp).2 (hV K kp).2 (wf K kp) hL)
            rw [eq (fun i => nI ((ftL I o g c nh nl 100).getD i 0)) (fun j => moS I o nl ((ftL I o g c nh nl 100).getD (j / 6) 0) (j % 6)) ⟨fun i _ => rfl, fun i _ j hj => by show moS I o nl ((ftL I o g c nh nl 100).getD ((6 * i + j) / 6) 0) ((6 * i + j) % 6) = _; rw [show (6 * i + j) / 6 = i by omega, show (6 * i + j) % 6 = j by omega]⟩]
            exact q_M_fitsLo hn hR' hk (hK K kp).1 (hK K kp).2.2.d0 (hK K kp).2.2.nh6 (hK K kp).2.2.d1 (hK K kp).2.2.l10 (hK K kp).2.WFk (hK K kp).2.WFr hkg (hV K kp).1 (hV K kp).2.2.d0 (hV K kp).2.1.c8 (wf K kp) d)
        · obtain ⟨w, hw, rfl⟩ := (nI_or z).resolve_left (fun q => d (by rw [Int32.lt_iff_toInt_lt] at q ⊢; have : (0 : Int32).toInt = 0 := rfl; have : (nI 10).toInt = 10 := rfl; omega))
          have hw10 : 10 ≤ w := Nat.not_lt.mp (fun q => d ((nI_lt' hw (by decide)).mpr q))
          exact st_q h (q_S_fitsHi hn hR ho hr hon H0.nh H0.2.nh6 H0.nl H0.2.l10 H0.WFc H0.WFh hg hgr hgn V0.1.a0 V0.1.c8 V0.hF h1 hk hro hlg1 hkg hrog a hw10 hw) (fun K J' R' kp hR' => by rw [e_ft (hK K kp).2 (hV K kp).2 (wf K kp)]; exact q_M_fitsHi hn hR' hk (hK K kp).1 (hK K kp).2.2.d0 (hK K kp).2.2.nh6 (hK K kp).2.2.d1 (hK K kp).2.2.l10 (hK K kp).2.WFk (hK K kp).2.WFr hkg (hV K kp).1 (hV K kp).2.2.d0 (hV K kp).2.1.c8 (wf K kp) hw10 hw)
theorem st_then {S : Nat × (Nat → Int32)} {I : mI} {J : mJ} {R : mR} {n : Nat} (h : INV I R n) (x y z t : Int32) : STEP S YS_then YM_then [.int x, .int y, .int z, .int t] I J R n := by
  have hn := h.n1.1
  have hR := h.1
  have h68 := h.2.1
  rcases h.off x with ⟨h0, hM⟩ | ⟨k, o, nh, nl, nw, rfl, hk, h1, hro, ho, hr, hon, ho9, hK⟩
  · rcases h.lg y with ⟨g0, gM⟩ | ⟨kg, g, c, rfl, hkg, hlg1, hrog, hg, hgr, hgn, hV⟩
    · exact st_q h (q_S_then00 hn hR h0 g0) (fun K J' R' kp hR' => q_M_then0w hn hR' (gM K kp))
    · exact st_q h (q_S_then01 hn hR rfl h0 hlg1 hkg hrog) (fun K J' R' kp hR' => q_M_then0o hn hR' (hM K kp) (by rw [(hV K kp).1]; decide))
  · have H0 := (hK I KP.refl).2
    have h6 := H0.2.nh6
    rcases h.lg y with ⟨g0, gM⟩ | ⟨kg, g, c, rfl, hkg, hlg1, hrog, hg, hgr, hgn, hV⟩
    · exact st_q h (q_S_then10 hn hR rfl h1 hk hro g0) (fun K J' R' kp hR' => q_M_then0w hn hR' (gM K kp))
    · have V0 := (hV I KP.refl).2
      by_cases a : aiV I g c nh = 0
      · have bad : ∀ K, KP I K → ∃ j, j < c ∧ f_in (fcR K kg j 0) 0 (nI nh - 1) = 0 := fun K kp => ((hV K kp).2.ai h6).elim (fun q => q.2) (fun q => absurd a q.1)
        rcases oi (x := t) (c := nh) (by omega) with ⟨q1, q2⟩ | ⟨w, hw, rfl, q1, q2⟩
        · exact st_q h (q_S_then1 hn hR ho hr hon H0.nh H0.2.nh6 H0.nl H0.2.l10 H0.WFc H0.WFh hg hgr hgn V0.1.a0 V0.1.c8 V0.hF h1 hk hro hlg1 hkg hrog q1) (fun K J' R' kp hR' => q_M_then1 hn hR' hk (hK K kp).1 (hK K kp).2.2.d0 (hK K kp).2.2.nh6 (hK K kp).2.2.d1 (hK K kp).2.2.l10 (hK K kp).2.WFk (hK K kp).2.WFr hkg (hV K kp).1 (hV K kp).2.2.d0 (hV K kp).2.1.c8 (bad K kp))
        · refine st_q h (q_S_then2 hn hR ho hr hon H0.nh H0.2.nh6 H0.nl H0.2.l10 H0.WFc H0.WFh hg hgr hgn V0.1.a0 V0.1.c8 V0.hF h1 hk hro hlg1 hkg hrog hw ?_) (fun K J' R' kp hR' => q_M_then1 hn hR' hk (hK K kp).1 (hK K kp).2.2.d0 (hK K kp).2.2.nh6 (hK K kp).2.2.d1 (hK K kp).2.2.l10 (hK K kp).2.WFk (hK K kp).2.WFr hkg (hV K kp).1 (hV K kp).2.2.d0 (hV K kp).2.1.c8 (bad K kp))
          rw [e_ft0 a]
          by_cases c0 : z < 0
          · exact Or.inl c0
          · exact Or.inr (by rw [Int32.le_iff_toInt_le]; rw [Int32.lt_iff_toInt_lt] at c0; show (nI 0).toInt ≤ _; have : (nI 0).toInt = 0 := rfl; have : (0 : Int32).toInt = 0 := rfl; omega)
      · have wf : ∀ K, KP I K → WFg K kg c nh := fun K kp => ((hV K kp).2.ai h6).elim (fun q => absurd q.1 a) (fun q => q.2)
        rcases oi (x := t) (c := nh) (by omega) with ⟨q1, q2⟩ | ⟨w, hw, rfl, q1, q2⟩
        · exact st_q h (q_S_then1 hn hR ho hr hon H0.nh H0.2.nh6 H0.nl H0.2.l10 H0.WFc H0.WFh hg hgr hgn V0.1.a0 V0.1.c8 V0.hF h1 hk hro hlg1 hkg hrog q1) (fun K J' R' kp hR' => q_M_then2 hn hR' hk (hK K kp).1 (hK K kp).2.2.d0 (hK K kp).2.2.nh6 (hK K kp).2.2.d1 (hK K kp).2.2.l10 (hK K kp).2.WFk (hK K kp).2.WFr hkg (hV K kp).1 (hV K kp).2.2.d0 (hV K kp).2.1.c8 (wf K kp) (Or.inr q2))
        · have hlen : (ftL I o g c nh nl 100).length ≤ 100 := fitL_len 100
          by_cases c0 : z < 0
          · exact st_q h (q_S_then2 hn hR ho hr hon H0.nh H0.2.nh6 H0.nl H0.2.l10 H0.WFc H0.WFh hg hgr hgn V0.1.a0 V0.1.c8 V0.hF h1 hk hro hlg1 hkg hrog hw (Or.inl c0)) (fun K J' R' kp hR' => q_M_then2 hn hR' hk (hK K kp).1 (hK K kp).2.2.d0 (hK K kp).2.2.nh6 (hK K kp).2.2.d1 (hK K kp).2.2.l10 (hK K kp).2.WFk (hK K kp).2.WFr hkg (hV K kp).1 (hV K kp).2.2.d0 (hV K kp).2.1.c8 (wf K kp) (Or.inl (if_pos c0)))
          · obtain ⟨v, hv, rfl⟩ := (nI_or z).resolve_left c0
            rcases Nat.lt_or_ge v (ftL I o g c nh nl 100).length with d | d
            · exact st_q h (q_S_then3 hn hR ho hr hon H0.nh H0.2.nh6 H0.nl H0.2.l10 H0.WFc H0.WFh hg hgr hgn V0.1.a0 V0.1.c8 V0.hF h1 hk hro hlg1 hkg hrog hw d) (fun K J' R' kp hR' => by
                have e := e_ft (hK K kp).2 (hV K kp).2 (wf K kp)
                have r := q_M_then hn hR' hk (hK K kp).1 (hK K kp).2.2.d0 (hK K kp).2.2.nh6 (hK K kp).2.2.d1 (hK K kp).2.2.l10 (hK K kp).2.WFk (hK K kp).2.WFr hkg (hV K kp).1 (hV K kp).2.2.d0 (hV K kp).2.1.c8 (S := S) (J := J') (d := 32) (wf K kp) (i := v) (h := w) (by rw [← e]; exact d) hw
                rw [← e] at r
                have sp : (ftL I o g c nh nl 100).getD v 0 < 60 ∨ (ftL I o g c nh nl 100).getD v 0 = 99 := ft_rng h6 d
                rw [(hK K kp).2.mv (kg := kg) sp (by omega)]
                exact r)
            · refine st_q h (q_S_then2 hn hR ho hr hon H0.nh H0.2.nh6 H0.nl H0.2.l10 H0.WFc H0.WFh hg hgr hgn V0.1.a0 V0.1.c8 V0.hF h1 hk hro hlg1 hkg hrog hw (Or.inr ((nI_le' (by omega) hv).mpr d))) (fun K J' R' kp hR' => q_M_then2 hn hR' hk (hK K kp).1 (hK K kp).2.2.d0 (hK K kp).2.2.nh6 (hK K kp).2.2.d1 (hK K kp).2.2.l10 (hK K kp).2.WFk (hK K kp).2.WFr hkg (hV K kp).1 (hV K kp).2.2.d0 (hV K kp).2.1.c8 (wf K kp) (Or.inl ?_))
              rw [← e_ft (hK K kp).2 (hV K kp).2 (wf K kp)]
              exact (fin_nc hv (by omega)).mpr d
