/-- a told that was copied, or stayed -/
def CLe (I' I : mI) (t' t : Nat) : Prop := ∀ r j, cpH cplTold r j = true → I' (t' + r) j = I (t + r) j
def SLe (I' I : mI) (s' s : Nat) : Prop := I' 97 s' = I 97 s ∧ I' 98 s' = I 98 s ∧ I' 99 s' = I 99 s ∧ (∀ j, j < 600 → I' 96 (600 * s' + j) = I 96 (600 * s + j)) ∧ (∀ j, j < 3 → I' 100 (3 * s' + j) = I 100 (3 * s + j)) ∧ (∀ j, j < 150 → I' 101 (150 * s' + j) = I 101 (150 * s + j)) ∧ (∀ j, j < 242 → I' 102 (242 * s' + j) = I 102 (242 * s + j)) ∧ (∀ j, j < 34 → I' 103 (34 * s' + j) = I 103 (34 * s + j))
theorem cpT_t : ∀ j, j < 600 → cpH cplTold 1 j = true := fun j hj => by
  unfold cpH
  refine List.any_eq_true.mpr ⟨(1, 0, 600), by decide, ?_⟩
  rw [decide_eq_true (show (1, 0, 600).2.1 ≤ j from Nat.zero_le _), decide_eq_true (show j < (1, 0, 600).2.2 from hj)]; rfl
theorem cpT_o : ∀ k, k < 2 → ∀ r, r < 9 → ∀ j, j < lnO r → cpH cplTold (4 + 9 * k + r) j = true := by decide
theorem cpT_w : ∀ k, k < 2 → ∀ r, r < 4 → ∀ j, j < 40 → (r = 0 → j < 1) → cpH cplTold (23 + 4 * k + r) j = true := by decide +kernel
theorem cpT_g : ∀ k, k < 2 → ∀ r, r < 3 → ∀ j, j < 8 → (r = 0 → j < 1) → cpH cplTold (32 + 3 * k + r) j = true := by decide
theorem TD_c {I I' : mI} {t t' s s' : Nat} (h : TD I t s) (hC : CLe I' I t' t) (hS : SLe I' I s' s) : TD I' t' s' := by
  obtain ⟨b1, ⟨b2, b3⟩, b4, b5, b6⟩ := h
  obtain ⟨s1, s2, s3, s4, s5, s6, s7, s8⟩ := hS
  refine ⟨TDt_cg b1 (hC 0 1 (by decide)) s1 (fun j hj => hC 1 j (cpT_t j hj)) s4, ⟨by rw [s2, ← b2]; exact hC 0 2 (by decide), by rw [s3, ← b3]; exact hC 0 3 (by decide)⟩, TDo_cg b4 (hC 2 0 (by decide)) (s5 0 (by decide)) (fun k hk r j hr hj => ?_) s6, TDw_cg b5 (hC 2 1 (by decide)) (s5 1 (by decide)) (fun k hk r j hr h0 hj => ?_) s7, TDg_cg b6 (hC 2 2 (by decide)) (s5 2 (by decide)) (fun k hk r j hr h0 hj => ?_) s8⟩
  · have := hC _ _ (cpT_o k hk r hr j hj)
    rw [show t' + (4 + 9 * k + r) = t' + 4 + 9 * k + r by omega, show t + (4 + 9 * k + r) = t + 4 + 9 * k + r by omega] at this; exact this
  · have := hC _ _ (cpT_w k hk r hr j hj h0)
    rw [show t' + (23 + 4 * k + r) = t' + 23 + 4 * k + r by omega, show t + (23 + 4 * k + r) = t + 23 + 4 * k + r by omega] at this; exact this
  · have := hC _ _ (cpT_g k hk r hr j hj h0)
    rw [show t' + (32 + 3 * k + r) = t' + 32 + 3 * k + r by omega, show t + (32 + 3 * k + r) = t + 32 + 3 * k + r by omega] at this; exact this
theorem INV_mk {I I' : mI} {R R' : mR} {n : Nat} (h : INV I R n) (hR : m_fin R') (h39 : R' 39 = R 39) (hRr : ∀ a, 122 ≤ a → R' a = R a) (h68 : ∀ j, j < 5 → I' 68 j = I 68 j) (h121 : I' 121 = I 121) (hI : ∀ a, 122 ≤ a → I' a = I a) (hS : ∀ s, 1 ≤ s → s < 4 → SLe I' I s s) (hT : TD I' 1 0) : INV I' R' n :=
  ⟨hR, fun j hj => (h68 j hj).trans (h.2.1 j hj), hT, IMG_cg h.2.2.2 h39 h121 (fun a b _ => hRr a b) (fun i k _ hk q => TD_c q (fun r j _ => by rw [hI _ (by omega)]) (hS (k + 1) (by omega) (by omega)))⟩
theorem st_deed {S : Nat × (Nat → Int32)} {I : mI} {J : mJ} {R : mR} {n : Nat} (h : INV I R n) (x y z : Int32) : STEP S YS_deed YM_deed [.int x, .int y, .int z] I J R n := by
  have hn := h.n1.1
  have hR := h.1
  have h68 := h.2.1
  rcases h.wk x with ⟨g0, gM⟩ | ⟨kw, w, c, rfl, hk2, h2, hrw, hw, hwr, hwn, hV⟩
  · exact st_q h (q_run (c_S_deed0 hn hR g0) KP.refl hR) (fun K J' R' kp hR' => q_run (c_M_deed0 hn hR' (gM K kp)) kp_31 hR')
  · have V0 := (hV I KP.refl).2
    exact st_q h (q_run (c_S_deed1 hn hR hw hwr hwn h2 hk2 hrw V0.c V0.1.c40) KP.refl hR) (fun K J' R' kp hR' => by rw [e_deed (hV K kp).2]; exact q_run (c_M_deed1 hn hR' (hV K kp).1 hk2 (hV K kp).2.k (hV K kp).2.1.c40) kp_31 hR')
theorem st_fact {S : Nat × (Nat → Int32)} {I : mI} {J : mJ} {R : mR} {n : Nat} (h : INV I R n) (x y z : Int32) : STEP S YS_fact YM_fact [.int x, .int y, .int z] I J R n := by
  have hn := h.n1.1
  have hR := h.1
  have h68 := h.2.1
  rcases h.lg x with ⟨g0, gM⟩ | ⟨kg, g, c, rfl, hkg, hlg1, hrog, hg, hgr, hgn, hV⟩
  · exact st_q h (q_run (c_S_fact0 hn hR g0) KP.refl hR) (fun K J' R' kp hR' => q_run (c_M_fact0 hn hR' (gM K kp)) kp_47 hR')
  · have V0 := (hV I KP.refl).2
    exact st_q h (q_run (c_S_fact1 hn hR hg hgr hgn hlg1 hkg hrog V0.1.a0 V0.1.c8) KP.refl hR) (fun K J' R' kp hR' => by rw [e_fact (hV K kp).2]; exact q_run (c_M_fact1 hn hR' (hV K kp).1 hkg (hV K kp).2.2.d0 (hV K kp).2.1.c8) kp_47 hR')
theorem st_office {S : Nat × (Nat → Int32)} {I : mI} {J : mJ} {R : mR} {n : Nat} (h : INV I R n) (x y : Int32) : STEP S YS_office YM_office [.int x, .int y] I J R n := by
  have hn := h.n1.1
  have hR := h.1
  have h68 := h.2.1
  rcases h.off x with ⟨h0, hM⟩ | ⟨k, o, nh, nl, nw, rfl, hk, h1, hro, ho, hr, hon, ho9, hK⟩
  · exact st_q h (q_run (c_S_office0 hn hR h0) KP.refl hR) (fun K J' R' kp hR' => q_run (c_M_office0 hn hR' (hM K kp)) kp_cd hR')
  · have H0 := (hK I KP.refl).2
    by_cases c : y < 0
    · exact st_q h (q_run (c_S_officeM hn hR h1 hk hro ho hr hon c) KP.refl hR) (fun K J' R' kp hR' => q_run (c_M_officeM hn hR' (hK K kp).1 hk c) kp_hd hR')
    · obtain ⟨w, hw, rfl⟩ := (nI_or y).resolve_left c
      exact st_q h (q_run (c_S_officeN hn hR h1 hk hro ho hr hon hw H0.nh H0.2.nh6 H0.nl H0.2.l10) KP.refl hR) (fun K J' R' kp hR' => by rw [e_office (hK K kp).2]; exact q_run (c_M_officeN hn hR' (hK K kp).1 hk (hK K kp).2.2.d0 (hK K kp).2.2.nh6 (hK K kp).2.2.d1 (hK K kp).2.2.l10 hw) kp_hd hR')
theorem kz {z : Int32} : (f_in z (-1) 3 = 0 ∧ (z < -1 ∨ 4 ≤ z)) ∨ (f_in z (-1) 3 = 1 ∧ kOK z) := by
  have m1 : (-1 : Int32).toInt = -1 := rfl
  have t3 : (3 : Int32).toInt = 3 := rfl
  have t4 : (4 : Int32).toInt = 4 := rfl
  unfold f_in
  by_cases h0 : z < -1
  · rw [if_pos h0]; exact Or.inl ⟨rfl, Or.inl h0⟩
  · rw [if_neg h0]
    by_cases h1 : 3 < z
    · rw [if_pos h1]
      exact Or.inl ⟨rfl, Or.inr (by rw [Int32.lt_iff_toInt_lt, t3] at h1; rw [Int32.le_iff_toInt_le, t4]; omega)⟩
    · rw [if_neg h1]
      refine Or.inr ⟨rfl, ?_⟩
      rw [Int32.lt_iff_toInt_lt, m1] at h0
      rw [Int32.lt_iff_toInt_lt, t3] at h1
      by_cases h2 : z.toInt = -1
      · exact Or.inl (Int32.toInt.inj (h2.trans m1.symm))
      · exact Or.inr ⟨z.toInt.toNat, by omega, Int32.toInt.inj (by rw [nI_toInt (by omega)]; omega)⟩
theorem st_doing {S : Nat × (Nat → Int32)} {I : mI} {J : mJ} {R : mR} {n : Nat} (h : INV I R n) (x y z : Int32) : STEP S YS_doing YM_doing [.int x, .int y, .int z] I J R n := by
  have hn := h.n1.1
  have hR := h.1
  have h68 := h.2.1
  rcases h.off x with ⟨h0, hM⟩ | ⟨k, o, nh, nl, nw, rfl, hk, h1, hro, ho, hr, hon, ho9, hK⟩
  · exact st_q h (q_run (c_S_doing0 hn hR h0) KP.refl hR) (fun K J' R' kp hR' => q_run (c_M_doing0 hn hR' (hM K kp)) kp_cd hR')
  · have H0 := (hK I KP.refl).2
    have h10 := H0.2.l10
    rcases oi (x := y) (c := nl) h10 with ⟨a, b⟩ | ⟨w, hw, rfl, a, b⟩
    · exact st_q h (q_run (c_S_doing1 hn hR h1 hk hro ho hr hon (Or.inl (by rw [H0.nl]; exact a))) KP.refl hR) (fun K J' R' kp hR' => q_run (c_M_doing1 hn hR' (hK K kp).1 hk (Or.inl (by rw [(hK K kp).2.2.d1]; exact b))) kp_hd hR')
    · rcases kz (z := z) with ⟨c, d⟩ | ⟨c, d⟩
      · exact st_q h (q_run (c_S_doing1 hn hR h1 hk hro ho hr hon (Or.inr d)) KP.refl hR) (fun K J' R' kp hR' => q_run (c_M_doing1 hn hR' (hK K kp).1 hk (Or.inr c)) kp_hd hR')
      · obtain ⟨q, hq, eq⟩ := H0.WFc w hw
        exact st_q h (q_run (c_S_doing2 hn hR h1 hk hro ho hr hon (show w < 10 by omega) (by rw [H0.nl]; exact a) d eq hq) KP.refl hR) (fun K J' R' kp hR' => by rw [(hK K kp).2.ds hw d]; exact q_run (c_M_doing2 hn hR' (hK K kp).1 hk (show w < 10 by omega) (hK K kp).2.WFk d (by rw [(hK K kp).2.2.d1]; exact b) c) kp_hd hR')
theorem st_fault {S : Nat × (Nat → Int32)} {I : mI} {J : mJ} {R : mR} {n : Nat} (h : INV I R n) (x : Int32) : STEP S YS_fault YM_fault [.int x] I J R n := by
  have hn := h.n1.1
  have hR := h.1
  have h68 := h.2.1
  obtain ⟨e2, e3⟩ := h.2.2.1.2.1
  refine st_q h (q_run (c_S_fault hn hR) KP.refl hR) (fun K J' R' kp hR' => ?_)
  have e : f_S_fault x I = f_M_fault x K := by
    unfold f_S_fault f_M_fault
    rw [m_up_ne (show 98 ≠ 95 by decide), m_up_ne (show 99 ≠ 95 by decide), kp.1 98 (by omega), kp.1 99 (by omega), e2, e3]
  rw [e]; exact q_run (c_M_fault hn hR') kp_cd hR' 
theorem st_count {S : Nat × (Nat → Int32)} {I : mI} {J : mJ} {R : mR} {n : Nat} (h : INV I R n) (x : Int32) : STEP S YS_count YM_count [.int x] I J R n := by
  have hn := h.n1.1
  have hR := h.1
  have h68 := h.2.1
  obtain ⟨c0, _, a0, b0, _⟩ := h.2.2.1.2.2.1
  obtain ⟨c1, _, a1, b1, _⟩ := h.2.2.1.2.2.2.1
  obtain ⟨c2, _, a2, b2, _⟩ := h.2.2.1.2.2.2.2
  refine st_q h (q_run (c_S_count hn hR) KP.refl hR) (fun K J' R' kp hR' => ?_)
  have e : f_S_count x I = f_M_count x K := by
    unfold f_S_count f_M_count
    rw [m_up_ne (show 100 ≠ 95 by decide), kp.1 100 (by omega)]
    rcases rg (x := x) (a := 0) (c := 2) (by decide) (by decide) with ⟨a, b⟩ | ⟨w, _, hw, rfl, b⟩
    · rw [if_pos (show f_in x 0 2 = 0 from a)]
      rcases b with b | b
      · exact if_pos b
      · have t2 : (nI 2).toInt = 2 := rfl
        rw [Int32.lt_iff_toInt_lt, t2] at b
        have t0 : (0 : Int32).toInt = 0 := rfl
        have t3 : (3 : Int32).toInt = 3 := rfl
        rw [if_neg (by rw [Int32.lt_iff_toInt_lt, t0]; omega), if_neg (by rw [Int32.lt_iff_toInt_lt, t3]; omega)]
    · rw [if_neg (show ¬ f_in (nI w) 0 2 = 0 by rw [show f_in (nI w) 0 2 = 1 from b]; decide)]
      rcases (show w = 0 ∨ w = 1 ∨ w = 2 by omega) with e | e | e <;> subst e
      · exact a0.trans b0.symm
      · exact a1.trans b1.symm
      · exact a2.trans b2.symm
  rw [e]; exact q_run (c_M_count hn hR') kp_cd hR' 
