theorem q_run2 {S : Nat × (Nat → Int32)} {d : Nat} {Y : mY} {as : List Value} {I I' : mI} {J : mJ} {R R' : mR} {n : Nat} {v : Value} (h : RUN S d Y as I J R n (some v) I' J R' n) (hI : KP I I') (hR : KF R R') : AW S d Y n n (qV I R v) 0 (lv_args 0 as) [] I J R n :=
  a_wk h (fun w I2 J2 R2 q => by obtain ⟨q1, q2, q3, q4⟩ := q; subst q1; subst q2; subst q4; exact ⟨rfl, hI, hR⟩)
theorem fk_ex (p : Nat → Prop) (N : Nat) : ∃ v : Int32, ∀ v2, ((∃ k, k < N ∧ p k ∧ (∀ j, j < k → ¬ p j) ∧ v2 = nI k) ∨ ((∀ k, k < N → ¬ p k) ∧ v2 = -1)) → v2 = v := by
  by_cases c : ∃ k, k < N ∧ p k
  · obtain ⟨k, h1, h2⟩ := c
    obtain ⟨j, q1, q2, q3⟩ := lst_n (p := p) k h2
    refine ⟨nI j, fun v2 h => ?_⟩
    rcases h with ⟨i, a1, a2, a3, a4⟩ | ⟨a1, _⟩
    · rcases Nat.lt_trichotomy i j with q | q | q
      · exact absurd a2 (q3 i q)
      · rw [a4, q]
      · exact absurd q2 (a3 j q)
    · exact absurd q2 (a1 j (by omega))
  · refine ⟨-1, fun v2 h => ?_⟩
    rcases h with ⟨i, a1, a2, _⟩ | ⟨_, a2⟩
    · exact absurd ⟨i, a1, a2⟩ c
    · exact a2
theorem sb1b_10 : ∀ c, c ≤ 10 → (nI c - nI 1).toInt = (c : Int) - 1 := by decide
theorem oiM {z : Int32} {c : Nat} (hc : c ≤ 10) : (z < -1 ∧ f_in z (-1) (nI c - nI 1) = 0) ∨ (z = -1 ∧ f_in z (-1) (nI c - nI 1) = 1) ∨ ∃ w, w < 2 ^ 31 ∧ z = nI w ∧ (c ≤ w → f_in z (-1) (nI c - nI 1) = 0) ∧ (w < c → f_in z (-1) (nI c - nI 1) = 1) := by
  have m1 : (-1 : Int32).toInt = -1 := rfl
  unfold f_in
  by_cases h0 : z < -1
  · rw [if_pos h0]; exact Or.inl ⟨h0, rfl⟩
  · rw [if_neg h0]
    by_cases h1 : z = -1
    · subst h1
      rw [if_neg (by rw [Int32.lt_iff_toInt_lt, sb1b_10 c hc, m1]; omega)]
      exact Or.inr (Or.inl ⟨rfl, rfl⟩)
    · have i0 : ¬ z < 0 := fun q => by
        rw [Int32.lt_iff_toInt_lt] at h0 q
        have z0 : (0 : Int32).toInt = 0 := rfl
        exact h1 (Int32.toInt.inj (by rw [m1]; omega))
      obtain ⟨w, hw, e⟩ := (nI_or z).resolve_left i0
      subst e
      refine Or.inr (Or.inr ⟨w, hw, rfl, fun q => if_pos ?_, fun q => if_neg ?_⟩)
      · rw [Int32.lt_iff_toInt_lt, sb1b_10 c hc, nI_toInt hw]; omega
      · rw [Int32.lt_iff_toInt_lt, sb1b_10 c hc, nI_toInt hw]; omega
theorem nI_le' {a b : Nat} (ha : a < 2 ^ 31) (hb : b < 2 ^ 31) : nI a ≤ nI b ↔ a ≤ b := by rw [Int32.le_iff_toInt_le, nI_toInt ha, nI_toInt hb]; omega
theorem nI_lt' {a b : Nat} (ha : a < 2 ^ 31) (hb : b < 2 ^ 31) : nI a < nI b ↔ a < b := by rw [Int32.lt_iff_toInt_lt, nI_toInt ha, nI_toInt hb]; omega
theorem rk_lt {b : Nat → Int32} {t : Nat} : ∀ k, rkN b t 0 k + (if t < k then 1 else 0) ≤ k := by
  intro k
  induction k with
  | zero => exact Nat.le_refl _
  | succ k ih =>
    show rkNS b t k (rkN b t 0 k) + (if t < k + 1 then 1 else 0) ≤ k + 1
    have u : rkNS b t k (rkN b t 0 k) ≤ rkN b t 0 k + 1 := by unfold rkNS; split <;> (try split) <;> (try split) <;> omega
    rcases Nat.lt_trichotomy t k with q | q | q
    · rw [if_pos q] at ih; rw [if_pos (by omega)]; omega
    · subst q
      rw [if_neg (Nat.lt_irrefl t)] at ih
      rw [if_pos (by omega)]
      have : rkNS b t t (rkN b t 0 t) = rkN b t 0 t := by unfold rkNS; rw [if_neg (fun q => by rw [Int32.lt_iff_toInt_lt] at q; omega), if_pos rfl, if_pos (Nat.le_refl _)]; rfl
      omega
    · rw [if_neg (by omega)] at ih; rw [if_neg (by omega)]; omega
theorem st_order {S : Nat × (Nat → Int32)} {I : mI} {J : mJ} {R : mR} {n : Nat} (h : INV I R n) (x y u z : Int32) : STEP S YS_order YM_order [.int x, .int y, .int u, .int z] I J R n := by
  have hn := h.n1.1
  have hR := h.1
  have h68 := h.2.1
  rcases h.off x with ⟨h0, hM⟩ | ⟨k, o, nh, nl, nw, rfl, hk, h1, hro, ho, hr, hon, ho9, hK⟩
  · exact st_q h (q_S_order0 hn hR h0) (fun K J' R' kp hR' => q_M_order0 hn hR' (hM K kp))
  · have H0 := (hK I KP.refl).2
    have h10 := H0.2.l10
    have h6 := H0.2.nh6
    have hnh1 := H0.2.nh1
    rcases oi (x := y) (c := nh) (by omega) with ⟨a, b⟩ | ⟨w, hw, rfl, a, b⟩
    · exact st_q h (q_S_order1 hn hR ho hr hon H0.nh H0.2.nh6 H0.nl H0.2.l10 H0.WFc H0.WFh h1 hk hro a) (fun K J' R' kp hR' => q_M_order1 hn hR' hk (hK K kp).1 (hK K kp).2.2.d0 (hK K kp).2.2.nh6 (hK K kp).2.2.d1 (hK K kp).2.2.l10 (hK K kp).2.WFk (hK K kp).2.WFr b)
    · rcases oiM (z := z) (c := 10) (by omega) with ⟨c, _⟩ | ⟨rfl, _⟩ | ⟨v, hv, rfl, c1, c2⟩
      · exact st_q h (q_S_order2 hn hR ho hr hon H0.nh H0.2.nh6 H0.nl H0.2.l10 H0.WFc H0.WFh h1 hk hro hw (Or.inl c)) (fun K J' R' kp hR' => q_M_orderB hn hR' hk (hK K kp).1 (hK K kp).2.2.d0 (hK K kp).2.2.nh6 (hK K kp).2.2.d1 (hK K kp).2.2.l10 (hK K kp).2.WFk (hK K kp).2.WFr hw (by
          rcases oiM (z := z) (c := onesN (nI (ltN ((hdI (cdI K) k) 106) (nI w) nl)) 10) (onesN_le _ _) with ⟨_, q⟩ | ⟨rfl, _⟩ | ⟨v, hv, rfl, _, _⟩
          · exact q
          · exact absurd c (by decide)
          · rw [Int32.lt_iff_toInt_lt, nI_toInt hv] at c
            have m1 : (-1 : Int32).toInt = -1 := rfl
            omega))
      · exact st_q h (q_S_order3 hn hR ho hr hon H0.nh H0.2.nh6 H0.nl H0.2.l10 H0.WFc H0.WFh h1 hk hro hw) (fun K J' R' kp hR' => by
          rw [e_orderM (hK K kp).2 hw h68]
          exact q_M_orderM hn hR' hk (hK K kp).1 (hK K kp).2.2.d0 (hK K kp).2.2.nh6 (hK K kp).2.2.d1 (hK K kp).2.2.l10 (hK K kp).2.WFk (hK K kp).2.WFr hw (by
            rcases oiM (z := -1) (c := onesN (nI (ltN ((hdI (cdI K) k) 106) (nI w) nl)) 10) (onesN_le _ _) with ⟨c, _⟩ | ⟨_, q⟩ | ⟨v, hv, e, _, _⟩
            · exact absurd c (by decide)
            · exact q
            · exact absurd e.symm (nI_m1 hv)))
      · have key : ∀ K, v < 2 ^ 31 → (onesN (nI (ltN ((hdI (cdI K) k) 106) (nI w) nl)) 10 ≤ v → f_in (nI v) (-1) (nI (onesN (nI (ltN ((hdI (cdI K) k) 106) (nI w) nl)) 10) - nI 1) = 0) ∧ (v < onesN (nI (ltN ((hdI (cdI K) k) 106) (nI w) nl)) 10 → f_in (nI v) (-1) (nI (onesN (nI (ltN ((hdI (cdI K) k) 106) (nI w) nl)) 10) - nI 1) = 1) := fun K hv => by
          rcases oiM (z := nI v) (c := onesN (nI (ltN ((hdI (cdI K) k) 106) (nI w) nl)) 10) (onesN_le _ _) with ⟨c, _⟩ | ⟨e, _⟩ | ⟨v', hv', e, q1, q2⟩
          · rw [Int32.lt_iff_toInt_lt, nI_toInt hv] at c
            have m1 : (-1 : Int32).toInt = -1 := rfl
            omega
          · exact absurd e (nI_m1 hv)
          · have := congrArg Int32.toNatClampNeg e
            rw [nI_clamp hv, nI_clamp hv'] at this
            subst this
            exact ⟨q1, q2⟩
        rcases Nat.lt_or_ge v 10 with d | d
        · exact st_q h (q_S_order4 hn hR ho hr hon H0.nh H0.2.nh6 H0.nl H0.2.l10 H0.WFc H0.WFh h1 hk hro hw d) (fun K J' R' kp hR' => by
            rcases Nat.lt_or_ge v (onesN (nI (ltN ((hdI (cdI K) k) 106) (nI w) nl)) 10) with g | g
            · obtain ⟨e1, e2⟩ := e_orderN (u := u) (hK K kp).2 h68 g
              rw [e1]; exact q_M_orderN hn hR' hk (hK K kp).1 (hK K kp).2.2.d0 (hK K kp).2.2.nh6 (hK K kp).2.2.d1 (hK K kp).2.2.l10 (hK K kp).2.WFk (hK K kp).2.WFr hw d ((key K hv).2 g) e2
            · rw [e_orderB (hK K kp).2 g]; exact q_M_orderB hn hR' hk (hK K kp).1 (hK K kp).2.2.d0 (hK K kp).2.2.nh6 (hK K kp).2.2.d1 (hK K kp).2.2.l10 (hK K kp).2.WFk (hK K kp).2.WFr hw ((key K hv).1 g))
        · exact st_q h (q_S_order2 hn hR ho hr hon H0.nh H0.2.nh6 H0.nl H0.2.l10 H0.WFc H0.WFh h1 hk hro hw (Or.inr ((nI_le' (by decide) hv).mpr d))) (fun K J' R' kp hR' => q_M_orderB hn hR' hk (hK K kp).1 (hK K kp).2.2.d0 (hK K kp).2.2.nh6 (hK K kp).2.2.d1 (hK K kp).2.2.l10 (hK K kp).2.WFk (hK K kp).2.WFr hw ((key K hv).1 (Nat.le_trans (onesN_le _ _) d)))
theorem st_settled {S : Nat × (Nat → Int32)} {I : mI} {J : mJ} {R : mR} {n : Nat} (h : INV I R n) (x y : Int32) : STEP S YS_settled YM_settled [.int x, .int y] I J R n := by
  have hn := h.n1.1
  have hR := h.1
  have h68 := h.2.1
  rcases h.off x with ⟨h0, hM⟩ | ⟨k, o, nh, nl, nw, rfl, hk, h1, hro, ho, hr, hon, ho9, hK⟩
  · exact st_q h (q_S_settled0 hn hR h0) (fun K J' R' kp hR' => q_M_settled0 hn hR' (hM K kp))
  · have H0 := (hK I KP.refl).2
    have h10 := H0.2.l10
    have h6 := H0.2.nh6
    have hnh1 := H0.2.nh1
    rcases rg (x := y) (a := 0) (c := 2) (by decide) (by decide) with ⟨a, b⟩ | ⟨w, _, hw, rfl, b⟩
    · exact st_q h (q_S_settled1 hn hR ho hr hon H0.nh H0.2.nh6 H0.nl H0.2.l10 H0.WFc H0.WFh h1 hk hro b) (fun K J' R' kp hR' => q_M_settled1 hn hR' hk (hK K kp).1 (hK K kp).2.2.d0 (hK K kp).2.2.nh6 (hK K kp).2.2.d1 (hK K kp).2.2.l10 (hK K kp).2.WFk (hK K kp).2.WFr a)
    · by_cases c : w = 0
      · subst c
        obtain ⟨v, hv⟩ := fk_ex (fun k => brR I o nl (rsC I o nl (af0 I o nl) k) = (rsC I o nl (af0 I o nl) k)) 11
        exact st_q h (q_S_settled2 hn hR ho hr hon H0.nh H0.2.nh6 H0.nl H0.2.l10 H0.WFc H0.WFh h1 hk hro hv) (fun K J' R' kp hR' => q_M_settledS hn hR' hk (hK K kp).1 (hK K kp).2.2.d0 (hK K kp).2.2.nh6 (hK K kp).2.2.d1 (hK K kp).2.2.l10 (hK K kp).2.WFk (hK K kp).2.WFr (fun v2 q => hv v2 ((e_settledS (hK K kp).2).mpr q)))
      · obtain ⟨P, p0, p2, p3, p4, _⟩ := e_ring H0
        exact st_q h (q_S_settled3 hn hR ho hr hon H0.nh H0.2.nh6 H0.nl H0.2.l10 H0.WFc H0.WFh h1 hk hro p0 (by omega) p3 p4 (show w = 1 ∨ w = 2 by omega)) (fun K J' R' kp hR' => by
          obtain ⟨P', r0, r2, r3, r4, r5, r6, _, r8⟩ := e_ring (hK K kp).2
          have eP : P = P' := by
            rcases Nat.lt_trichotomy P P' with q | q | q
            · exact absurd p3 (r4 P p0 q)
            · exact q
            · exact absurd r3 (p4 P' r0 q)
          subst eP
          have e : (if w = 1 then nI P else fbC (frT I o nl (rsC I o nl (af0 I o nl) 10) P) (nI 0) nl) = (if nI w = nI 1 then nI P else peN (hdI (cdI K) k) k nl (rsN (hdI (cdI K) k) k nl (nI 0) (rs0 (hdI (cdI K) k) k nl) 20) (nI 0) (P - 1)) := by
            rcases (show w = 1 ∨ w = 2 by omega) with e | e <;> subst e
            · rfl
            · rw [if_neg (by decide), if_neg (by decide), r8]
          rw [e]
          exact q_M_settledP hn hR' hk (hK K kp).1 (hK K kp).2.2.d0 (hK K kp).2.2.nh6 (hK K kp).2.2.d1 (hK K kp).2.2.l10 (hK K kp).2.WFk (hK K kp).2.WFr (fun q => by have := congrArg Int32.toNatClampNeg q; rw [nI_clamp (by omega)] at this; exact c this) b r0 r5 r6)
theorem st_ruled {S : Nat × (Nat → Int32)} {I : mI} {J : mJ} {R : mR} {n : Nat} (h : INV I R n) (x y : Int32) : STEP S YS_ruled YM_ruled [.int x, .int y] I J R n := by
  have hn := h.n1.1
  have hR := h.1
  have h68 := h.2.1
  rcases h.off x with ⟨h0, hM⟩ | ⟨k, o, nh, nl, nw, rfl, hk, h1, hro, ho, hr, hon, ho9, hK⟩
  · exact st_q h (q_S_ruledN hn hR h0) (fun K J' R' kp hR' => q_M_ruled0 hn hR' (hM K kp))
  · have H0 := (hK I KP.refl).2
    have h10 := H0.2.l10
    have h6 := H0.2.nh6
    have hnh1 := H0.2.nh1
    by_cases c : y.toInt < 0 ∨ 3 < y.toInt
    · by_cases d : y < nI 10
      · have e : f_of (y - nI 10) (nI nh) = 0 := by
          have b1 := y.minValue_le_toInt
          have t10 : (nI 10).toInt = 10 := rfl
          rw [Int32.lt_iff_toInt_lt, t10] at d
          have ms : (Int32.minValue).toInt = -2147483648 := by decide
          unfold f_of
          by_cases q : y - nI 10 < 0
          · rw [if_pos q]
          · rw [if_neg q]
            refine if_pos ?_
            rw [Int32.lt_iff_toInt_lt, Int32.toInt_sub, t10] at q
            rw [Int32.le_iff_toInt_le, Int32.toInt_sub, t10, nI_toInt (by omega)]
            have z0 : (0 : Int32).toInt = 0 := rfl
            rw [z0] at q
            rw [Int.bmod_def] at q ⊢
            split at q <;> omega
        exact st_q h (q_S_ruled4 hn hR ho hr hon H0.nh H0.2.nh6 H0.nl H0.2.l10 H0.WFc H0.WFh h1 hk hro c e) (fun K J' R' kp hR' => q_M_ruledN hn hR' hk (hK K kp).1 (hK K kp).2.2.d0 (hK K kp).2.2.nh6 (hK K kp).2.2.d1 (hK K kp).2.2.l10 (hK K kp).2.WFk (hK K kp).2.WFr c d)
      · obtain ⟨w, hw, e⟩ : ∃ w, w < 2 ^ 31 ∧ y - nI 10 = nI w := by
          have t10 : (nI 10).toInt = 10 := rfl
          rw [Int32.lt_iff_toInt_lt, t10] at d
          have b2 := y.toInt_le
          have mx : (Int32.maxValue).toInt = 2147483647 := by decide
          have es : (y - nI 10).toInt = y.toInt - 10 := by
            rw [Int32.toInt_sub, t10, Int.bmod_def]
            split <;> omega
          refine ⟨(y.toInt - 10).toNat, by omega, Int32.toInt.inj ?_⟩
          rw [es, nI_toInt (by omega)]; omega
        have hrk : ∀ K, KP I K → ∀ v2, rkV (rkA (hdI (cdI K) k) k nl ((hdI (cdI K) k) 110, (hdI (cdI K) k) 120) nh).2 nh (y - nI 10) v2 → rkVC (raA I o nl (I 69, w5 I) nh).1 nh (y - nI 10) v2 := fun K kp v2 q => (e_rkV (e_rkA (hK K kp).2 h68 nh h6).1).mpr q
        by_cases g : f_of (y - nI 10) (nI nh) = 0
        · have g2 : nh ≤ w := by rw [e] at g; exact (f_of_z hw (by omega)).mp g
          exact st_q h (q_S_ruled4 hn hR ho hr hon H0.nh H0.2.nh6 H0.nl H0.2.l10 H0.WFc H0.WFh h1 hk hro c g) (fun K J' R' kp hR' => q_M_ruledK hn hR' hk (hK K kp).1 (hK K kp).2.2.d0 (hK K kp).2.2.nh6 (hK K kp).2.2.d1 (hK K kp).2.2.l10 (hK K kp).2.WFk (hK K kp).2.WFr c d (fun v2 q => by
            rcases q with ⟨j, a1, a2, _⟩ | ⟨_, a⟩
            · have r := rk_lt (b := (rkA (hdI (cdI K) k) k nl ((hdI (cdI K) k) 110, (hdI (cdI K) k) 120) nh).2) (t := j) nh
              rw [if_pos a1] at r
              rw [e] at a2
              have := congrArg Int32.toNatClampNeg a2
              rw [nI_clamp (by omega), nI_clamp hw] at this
              omega
            · exact a))
        · obtain ⟨v, hv⟩ := fk_ex (fun j => nI (rkC (raA I o nl (I 69, w5 I) nh).1 j 0 nh) = y - nI 10) nh
          exact st_q h (q_S_ruled5 hn hR ho hr hon H0.nh H0.2.nh6 H0.nl H0.2.l10 H0.WFc H0.WFh h1 hk hro c g hv) (fun K J' R' kp hR' => q_M_ruledK hn hR' hk (hK K kp).1 (hK K kp).2.2.d0 (hK K kp).2.2.nh6 (hK K kp).2.2.d1 (hK K kp).2.2.l10 (hK K kp).2.WFk (hK K kp).2.WFr c d (fun v2 q => hv v2 (hrk K kp v2 q)))
    · obtain ⟨w, hw, rfl⟩ : ∃ w, w ≤ 3 ∧ y = nI w := by
        refine ⟨y.toInt.toNat, by omega, Int32.toInt.inj ?_⟩
        rw [nI_toInt (by omega)]; omega
      rcases (show w = 0 ∨ w = 1 ∨ w = 2 ∨ w = 3 by omega) with e | e | e | e <;> subst e
      · exact st_q h (q_S_ruled0 hn hR ho hr hon H0.nh H0.2.nh6 H0.nl H0.2.l10 H0.WFc H0.WFh h1 hk hro) (fun K J' R' kp hR' => by rw [e_couples (hK K kp).2]; exact q_M_ruledC hn hR' hk (hK K kp).1 (hK K kp).2.2.d0 (hK K kp).2.2.nh6 (hK K kp).2.2.d1 (hK K kp).2.2.l10 (hK K kp).2.WFk (hK K kp).2.WFr)
      · exact st_q h (q_S_ruled1 hn hR ho hr hon H0.nh H0.2.nh6 H0.nl H0.2.l10 H0.WFc H0.WFh h1 hk hro H0.WFm.2) (fun K J' R' kp hR' => by rw [e_rows (hK K kp).2 nl (Nat.le_refl _)]; exact q_M_ruledF hn hR' hk (hK K kp).1 (hK K kp).2.2.d0 (hK K kp).2.2.nh6 (hK K kp).2.2.d1 (hK K kp).2.2.l10 (hK K kp).2.WFk (hK K kp).2.WFr (hK K kp).2.WFm.1)
      · obtain ⟨P, p0, p2, p3, p4, _⟩ := e_ring H0
        exact st_q h (q_S_ruled2 hn hR ho hr hon H0.nh H0.2.nh6 H0.nl H0.2.l10 H0.WFc H0.WFh h1 hk hro H0.WFm.2 p0 (by omega) p3 p4) (fun K J' R' kp hR' => by
          obtain ⟨P', r0, r2, r3, r4, r5, r6, r7, r8⟩ := e_ring (hK K kp).2
          have eP : P = P' := by
            rcases Nat.lt_trichotomy P P' with q | q | q
            · exact absurd p3 (r4 P p0 q)
            · exact q
            · exact absurd r3 (p4 P' r0 q)
          subst eP
          rw [e_loose (hK K kp).2 r7]; exact q_M_ruledL hn hR' hk (hK K kp).1 (hK K kp).2.2.d0 (hK K kp).2.2.nh6 (hK K kp).2.2.d1 (hK K kp).2.2.l10 (hK K kp).2.WFk (hK K kp).2.WFr)
      · exact st_q h (q_S_ruled3 hn hR ho hr hon H0.nh H0.2.nh6 H0.nl H0.2.l10 H0.WFc H0.WFh h1 hk hro) (fun K J' R' kp hR' => by rw [(e_touched (hK K kp).2 (B := (hdI (cdI K) k) 110) h68 nh h6).1]; exact q_M_ruledT hn hR' hk (hK K kp).1 (hK K kp).2.2.d0 (hK K kp).2.2.nh6 (hK K kp).2.2.d1 (hK K kp).2.2.l10 (hK K kp).2.WFk (hK K kp).2.WFr)
theorem RO.WFf {I K : mI} {o ko nh nl nw : Nat} (H : RO I K o ko nh nl nw) : WFf I o nl := fun l hl => by
  obtain ⟨f, h1, h2, _⟩ := H.2.fo l (by have := H.2.l10; omega)
  have e : I (o + 4) l = nI f := (H.1.fo l hl).trans h2
  have e2 : hmN (I (o + 4)) l = f := by unfold hmN; rw [e]; exact nI_clamp (by omega)
  rw [e2]; exact ⟨e, h1⟩
theorem RO.WFfR {I K : mI} {o ko nh nl nw : Nat} (H : RO I K o ko nh nl nw) : WFfR K ko nl := fun l hl => by
  obtain ⟨f, h1, h2, _⟩ := H.2.fo l (by have := H.2.l10; omega)
  have e2 : fwR K ko l = f := by unfold fwR; rw [h2]; exact nI_clamp (by omega)
  rw [e2]; exact ⟨h2, h1⟩
theorem st_bags {S : Nat × (Nat → Int32)} {I : mI} {J : mJ} {R : mR} {n : Nat} (h : INV I R n) (x y z t : Int32) : STEP S YS_bags YM_bags [.int x, .int y, .int z, .int t] I J R n := by
  have hn := h.n1.1
  have hR := h.1
  have h68 := h.2.1
  rcases h.off x with ⟨h0, hM⟩ | ⟨k, o, nh, nl, nw, rfl, hk, h1, hro, ho, hr, hon, ho9, hK⟩
  · exact st_q h (q_S_bags0 hn hR h0) (fun K J' R' kp hR' => q_M_bags0 hn hR' (hM K kp))
  · have H0 := (hK I KP.refl).2
    have h10 := H0.2.l10
    have h6 := H0.2.nh6
    have hnh1 := H0.2.nh1
    rcases rg (x := y) (a := 1) (c := 99) (by decide) (by decide) with ⟨a, b⟩ | ⟨fo, f1, f9, rfl, _⟩
    · exact st_q h (q_S_bags1 hn hR ho hr hon H0.nh H0.2.nh6 H0.nl H0.2.l10 H0.WFc H0.WFh h1 hk hro (b.elim Or.inl (fun q => Or.inr (Or.inl q)))) (fun K J' R' kp hR' => q_M_bags1 hn hR' hk (hK K kp).1 (hK K kp).2.2.d0 (hK K kp).2.2.nh6 (hK K kp).2.2.d1 (hK K kp).2.2.l10 (hK K kp).2.WFk (hK K kp).2.WFr (Or.inl a))
    · rcases rg (x := z) (a := 1) (c := 10) (by decide) (by decide) with ⟨a, b⟩ | ⟨ms, m1, m9, rfl, _⟩
      · exact st_q h (q_S_bags1 hn hR ho hr hon H0.nh H0.2.nh6 H0.nl H0.2.l10 H0.WFc H0.WFh h1 hk hro (Or.inr (Or.inr b))) (fun K J' R' kp hR' => q_M_bags1 hn hR' hk (hK K kp).1 (hK K kp).2.2.d0 (hK K kp).2.2.nh6 (hK K kp).2.2.d1 (hK K kp).2.2.l10 (hK K kp).2.WFk (hK K kp).2.WFr (Or.inr (Or.inl a)))
      · rcases oiM (z := t) (c := nl) h10 with ⟨c, d⟩ | ⟨rfl, d⟩ | ⟨w, hw, rfl, d1, d2⟩
        · have c2 : f_of t (nI nl) = 0 := by
            unfold f_of
            refine if_pos ?_
            rw [Int32.lt_iff_toInt_lt] at c ⊢
            have m1 : (-1 : Int32).toInt = -1 := rfl
            have z0 : (0 : Int32).toInt = 0 := rfl
            omega
          exact st_q h (q_S_bags2 hn hR ho hr hon H0.nh H0.2.nh6 H0.nl H0.2.l10 H0.WFc H0.WFh h1 hk hro f1 f9 m1 m9 (fun q => by rw [q] at c; exact absurd c (by decide)) c2) (fun K J' R' kp hR' => q_M_bags1 hn hR' hk (hK K kp).1 (hK K kp).2.2.d0 (hK K kp).2.2.nh6 (hK K kp).2.2.d1 (hK K kp).2.2.l10 (hK K kp).2.WFk (hK K kp).2.WFr (Or.inr (Or.inr d)))
        · obtain ⟨v, v1, v2, v3, v4⟩ := e_bagsF (fo := fo) H0 m1
          exact st_q h (q_S_bags3 hn hR ho hr hon H0.nh H0.2.nh6 H0.nl H0.2.l10 H0.WFc H0.WFh h1 hk hro f1 f9 m1 m9 H0.WFf v1 v2 v3) (fun K J' R' kp hR' => q_M_bagsF hn hR' hk (hK K kp).1 (hK K kp).2.2.d0 (hK K kp).2.2.nh6 (hK K kp).2.2.d1 (hK K kp).2.2.l10 (hK K kp).2.WFk (hK K kp).2.WFr (hK K kp).2.WFfR f1 f9 m1 m9 rfl d (fun X hX => v4 X (by rw [H0.gd, ← (hK K kp).2.gd]; exact hX)))
        · rcases Nat.lt_or_ge w nl with g | g
          · obtain ⟨v, v1, v2, v3, v4, v5⟩ := e_bagsD (fo := fo) H0 m1 g
            exact st_q h (q_S_bags4 hn hR ho hr hon H0.nh H0.2.nh6 H0.nl H0.2.l10 H0.WFc H0.WFh h1 hk hro f1 f9 m1 m9 H0.WFf g v1 v2 v3) (fun K J' R' kp hR' => q_M_bagsD hn hR' hk (hK K kp).1 (hK K kp).2.2.d0 (hK K kp).2.2.nh6 (hK K kp).2.2.d1 (hK K kp).2.2.l10 (hK K kp).2.WFk (hK K kp).2.WFr (hK K kp).2.WFfR f1 f9 m1 m9 rfl g (d2 g) (fun X hX => v4 X (by rw [H0.gd, ← (hK K kp).2.gd]; exact hX)) (fun X hX hx w2 hw2 => v5 X (by rw [H0.gd, ← (hK K kp).2.gd]; exact hX) hx w2 (by rw [H0.gd, ← (hK K kp).2.gd]; exact hw2)))
          · exact st_q h (q_S_bags2 hn hR ho hr hon H0.nh H0.2.nh6 H0.nl H0.2.l10 H0.WFc H0.WFh h1 hk hro f1 f9 m1 m9 (nI_m1 hw) ((f_of_z hw (by omega)).mpr g)) (fun K J' R' kp hR' => q_M_bags1 hn hR' hk (hK K kp).1 (hK K kp).2.2.d0 (hK K kp).2.2.nh6 (hK K kp).2.2.d1 (hK K kp).2.2.l10 (hK K kp).2.WFk (hK K kp).2.WFr (Or.inr (Or.inr (d1 g))))
