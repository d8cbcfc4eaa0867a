theorem st_tx {S : Nat × (Nat → Int32)} {I : mI} {J : mJ} {R : mR} {n : Nat} {x y v f pl : Int32} (h : INV I R n) (hc : AW S 40 YS_text n n (txQ I R v f pl (I 3) 40 0 (fun _ => True)) 0 (lv_args 0 (.ref 0 :: [.int x, .int y])) [] I J R n) (hm : ∀ K J' R', m_fit K → m_fin R' → (∀ a, 59 < a → K a = I a) → AW S 40 YM_text n n (txN K R' v f pl (K 100) 101 (K 101)) 0 (lv_args 0 (.ref 95 :: [.int x, .int y])) [] K J' R' n) : STEP S YS_text YM_text [.int x, .int y] I J R n := by
  refine ⟨.int v, n, rt_i, Nat.le_refl _, h.n1.2, a_wk hc (fun w I' J' R' q => ?_)⟩
  obtain ⟨q1, q2, q3, q4, _, q6⟩ := q
  refine ⟨q1, a_fit (fun hf => a_wk (hm I' J' R' hf q6.1 (fun a ha => q4 a (Or.inr ha))) (fun w2 Z J2 R2 p => ?_))⟩
  obtain ⟨p1, p2, p3, p4, p5, p6, p7, p8⟩ := p
  subst p2
  have o : ∀ a, (a < 40 ∧ a ≠ 1 ∧ a ≠ 3) ∨ (59 < a ∧ a < 95) ∨ a = 96 ∨ (101 < a ∧ a ≠ 104 ∧ a ≠ 105) → Z a = I a := fun a ha => by
    rw [p8 a (by omega)]; exact q4 a (by omega)
  have z1 : Z 1 = txR (I 1) f pl := by rw [p8 1 (by omega)]; exact q2
  have z3 : Z 3 = I 3 := by rw [p8 3 (by omega)]; exact q3
  have i' : ∀ a, 59 < a → I' a = I a := fun a ha => q4 a (Or.inr ha)
  rw [i' 97 (by omega)] at p3
  rw [i' 98 (by omega)] at p4
  rw [i' 99 (by omega)] at p5
  rw [i' 100 (by omega)] at p6
  rw [i' 101 (by omega)] at p7
  refine ⟨p1, INV_mk h q6.1 (q6.2 39 (by omega)) (fun a ha => q6.2 a (by omega)) (fun j _ => by rw [o 68 (by omega)]) (o 121 (by omega)) (fun a ha => o a (by omega)) (fun s h1 h2 => ⟨by rw [p3, vup_ne (by omega)], by rw [p4, vup_ne (by omega)], by rw [p5, vup_ne (by omega)], fun j _ => by rw [o 96 (by omega)], fun j _ => by rw [p6], fun j _ => by rw [p7], fun j _ => by rw [o 102 (by omega)], fun j _ => by rw [o 103 (by omega)]⟩) (TD_tape h.2.2.1 (len := 0) (by decide) (by rw [z1]; rfl) (by rw [p3, vup_eq]) (fun j hj => absurd hj (Nat.not_lt_zero _)) (by rw [z1, p4, vup_eq]; rfl) (by rw [z1, p5, vup_eq]; rfl) (fun a h1 h2 => ?_) (fun a h1 h2 => ?_))⟩
  · by_cases c : a = 3
    · rw [c, z3]
    · exact o a (by omega)
  · by_cases c : a = 100
    · rw [c, p6]
    · by_cases c2 : a = 101
      · rw [c2, p7]
      · exact o a (by omega)
theorem st_tx0 {S : Nat × (Nat → Int32)} {I : mI} {J : mJ} {R : mR} {n : Nat} {x y : Int32} {k c' : Nat} {C : Nat → Int32} {D : Nat → Int32} {nh nl2 nw2 : Nat} (h : INV I R n) (hkc : k < c') (hc2 : c' ≤ 2) (hC0 : C 0 = nI c') (hC1 : C 1 = I 3 1) (hC2 : C 2 = I 3 2) {CM : Nat → Int32} (hMk : CM 0 = nI c') (hM : ∀ j, j ≠ 0 → CM j = I 100 j) (hold : ∀ j, j < c' → j ≠ k → ∀ c, I 3 0 = nI c → c ≤ 2 → j < c) (hO : OKo D nh nl2 nw2)
    (hc : AW S 40 YS_text n n (txQ I R (nI k) (nI 0) (-1) C (5 + 9 * k) (13 + 9 * k) (fun X => ∃ nl nw, OD X (5 + 9 * k) D nl nw)) 0 (lv_args 0 (.ref 0 :: [.int x, .int y])) [] I J R n) (hm : ∀ K J' R', m_fit K → m_fin R' → (∀ a, 59 < a → K a = I a) → AW S 40 YM_text n n (txN K R' (nI k) (nI 0) (-1) CM 101 (stF D (K 101) (75 * k) 75)) 0 (lv_args 0 (.ref 95 :: [.int x, .int y])) [] K J' R' n) : STEP S YS_text YM_text [.int x, .int y] I J R n := by
  refine ⟨.int (nI k), n, rt_i, Nat.le_refl _, h.n1.2, a_wk hc (fun w I' J' R' q => ?_)⟩
  obtain ⟨q1, q2, q3, q4, hP, q6⟩ := q
  refine ⟨q1, a_fit (fun hf => a_wk (hm I' J' R' hf q6.1 (fun a ha => q4 a (Or.inr ha))) (fun w2 Z J2 R2 p => ?_))⟩
  obtain ⟨p1, p2, p3, p4, p5, z100, p7, p8⟩ := p
  subst p2
  have zo : ∀ a, a < 40 → a ≠ 1 → a ≠ 3 → (a < 5 + 9 * k ∨ 13 + 9 * k < a) → Z a = I a := fun a h1 h2 h3 h4 => by
    rw [p8 a (by omega)]; exact q4 a (by omega)
  have zk : ∀ a, 5 + 9 * k ≤ a → a < 40 → Z a = I' a := fun a h1 h2 => p8 a (by omega)
  have i' : ∀ a, 59 < a → I' a = I a := fun a ha => q4 a (Or.inr ha)
  have zc : ∀ a, (59 < a ∧ a < 95) ∨ a = 96 ∨ (100 < a ∧ a ≠ 104 ∧ a ≠ 105) → a ≠ 101 → Z a = I a := fun a ha hb => by
    rw [p8 a (by omega)]; exact i' a (by omega)
  have z1 : Z 1 = txR (I 1) (nI 0) (-1) := by rw [p8 1 (by omega)]; exact q2
  have z3 : Z 3 = C := by rw [p8 3 (by omega)]; exact q3
  rw [i' 97 (by omega)] at p3
  rw [i' 98 (by omega)] at p4
  rw [i' 99 (by omega)] at p5
  rw [i' 101 (by omega)] at p7
  obtain ⟨c, cle, e1, e2, e3⟩ := h.2.2.1.2.2.1
  have hold : ∀ j, j < c' → j ≠ k → j < c := fun j h1 h2 => hold j h1 h2 c e1 cle
  have eD : ∀ j, j = k → ∀ i, i < 75 → Z 101 (75 * (2 * 0 + j) + i) = D i := fun j hj i hi => by
    subst hj
    rw [p7, show 2 * 0 + j = j by omega]
    unfold stF
    rw [if_pos ⟨by omega, by omega⟩, Nat.add_sub_cancel_left]
  have eO : ∀ j, j < 2 → j ≠ k → ∀ i, i < 75 → Z 101 (75 * (2 * 0 + j) + i) = I 101 (75 * (2 * 0 + j) + i) := fun j hj hn i hi => by
    rw [p7]
    unfold stF
    rw [if_neg (by omega)]
  refine ⟨p1, INV_mk h q6.1 (q6.2 39 (by omega)) (fun a ha => q6.2 a (by omega)) (fun j _ => by rw [zc 68 (by omega) (by decide)]) (zc 121 (by omega) (by decide)) (fun a ha => zc a (by omega) (by omega)) (fun s h1 h2 => ⟨by rw [p3, vup_ne (by omega)], by rw [p4, vup_ne (by omega)], by rw [p5, vup_ne (by omega)], fun j _ => by rw [zc 96 (by omega) (by decide)], fun j _ => by rw [z100]; exact hM _ (by omega), ?_, ?_, ?_⟩) ⟨⟨0, by decide, by rw [z1]; rfl, by rw [p3, vup_eq], fun j hj => absurd hj (Nat.not_lt_zero _)⟩, ⟨by rw [z1, p4, vup_eq]; rfl, by rw [z1, p5, vup_eq]; rfl⟩, ?_, TDw_cg h.2.2.1.2.2.2.1 (by rw [show (1 + 2 : Nat) = 3 from rfl, z3]; exact hC1) (by rw [z100]; exact hM 1 (by decide)) (fun m hm r i hr _ _ => by rw [zo _ (by omega) (by omega) (by omega) (by omega)]) (fun i _ => by rw [zc 102 (by omega) (by decide)]), TDg_cg h.2.2.1.2.2.2.2 (by rw [show (1 + 2 : Nat) = 3 from rfl, z3]; exact hC2) (by rw [z100]; exact hM 2 (by decide)) (fun m hm r i hr _ _ => by rw [zo _ (by omega) (by omega) (by omega) (by omega)]) (fun i _ => by rw [zc 103 (by omega) (by decide)])⟩⟩
  · intro j hj
    rw [p7]
    unfold stF
    rw [if_neg (by omega)]
  · intro j hj; rw [zc 102 (by omega) (by decide)]
  · intro j hj; rw [zc 103 (by omega) (by decide)]
  · refine ⟨c', hc2, by rw [show (1 + 2 : Nat) = 3 from rfl, z3]; exact hC0, by rw [z100]; exact hMk, fun j hj => ?_⟩
    by_cases c : j = k
    · subst c
      obtain ⟨nl, nw, hD⟩ := hP
      have en : nl = nl2 := by have := hD.d1.symm.trans hO.d1; have := congrArg Int32.toNatClampNeg this; rw [nI_clamp (by have := hD.l10; omega), nI_clamp (by have := hO.l10; omega)] at this; exact this
      have ew : nw = nw2 := by have := hD.d2.symm.trans hO.d2; have := congrArg Int32.toNatClampNeg this; rw [nI_clamp (by have := hD.w8; omega), nI_clamp (by have := hO.w8; omega)] at this; exact this
      subst en; subst ew
      refine ⟨nh, nl, nw, OD_cg hD (fun r i hr hi => by rw [show 1 + 4 + 9 * j + r = 5 + 9 * j + r by omega, zk _ (by omega) (by omega)]) (eD j rfl), OKo_cg hO (eD j rfl)⟩
    · obtain ⟨nh', nl', nw', a1, a2⟩ := e3 j (hold j hj c)
      exact ⟨nh', nl', nw', OD_cg a1 (fun r i hr hi => by rw [zo _ (by omega) (by omega) (by omega) (by omega)]) (eO j (by omega) c), OKo_cg a2 (eO j (by omega) c)⟩
theorem st_tx1 {S : Nat × (Nat → Int32)} {I : mI} {J : mJ} {R : mR} {n : Nat} {x y : Int32} {k c' : Nat} {C : Nat → Int32} {D : Nat → Int32} {c2 : Nat} (h : INV I R n) (hkc : k < c') (hc2 : c' ≤ 2) (hC1 : C 1 = nI c') (hC0 : C 0 = I 3 0) (hC2 : C 2 = I 3 2) {CM : Nat → Int32} (hMk : CM 1 = nI c') (hM : ∀ j, j ≠ 1 → CM j = I 100 j) (hold : ∀ j, j < c' → j ≠ k → ∀ c, I 3 1 = nI c → c ≤ 2 → j < c) (hO : OKw D c2)
    (hc : AW S 40 YS_text n n (txQ I R (nI k) (nI 0) (-1) C (24 + 4 * k) (27 + 4 * k) (fun X => ∃ c1, WD X (24 + 4 * k) D c1)) 0 (lv_args 0 (.ref 0 :: [.int x, .int y])) [] I J R n) (hm : ∀ K J' R', m_fit K → m_fin R' → (∀ a, 59 < a → K a = I a) → AW S 40 YM_text n n (txN K R' (nI k) (nI 0) (-1) CM 102 (stF D (K 102) (121 * k) 121)) 0 (lv_args 0 (.ref 95 :: [.int x, .int y])) [] K J' R' n) : STEP S YS_text YM_text [.int x, .int y] I J R n := by
  refine ⟨.int (nI k), n, rt_i, Nat.le_refl _, h.n1.2, a_wk hc (fun w I' J' R' q => ?_)⟩
  obtain ⟨q1, q2, q3, q4, hP, q6⟩ := q
  refine ⟨q1, a_fit (fun hf => a_wk (hm I' J' R' hf q6.1 (fun a ha => q4 a (Or.inr ha))) (fun w2 Z J2 R2 p => ?_))⟩
  obtain ⟨p1, p2, p3, p4, p5, z100, p7, p8⟩ := p
  subst p2
  have zo : ∀ a, a < 40 → a ≠ 1 → a ≠ 3 → (a < 24 + 4 * k ∨ 27 + 4 * k < a) → Z a = I a := fun a h1 h2 h3 h4 => by
    rw [p8 a (by omega)]; exact q4 a (by omega)
  have zk : ∀ a, 24 + 4 * k ≤ a → a < 40 → Z a = I' a := fun a h1 h2 => p8 a (by omega)
  have i' : ∀ a, 59 < a → I' a = I a := fun a ha => q4 a (Or.inr ha)
  have zc : ∀ a, (59 < a ∧ a < 95) ∨ a = 96 ∨ (100 < a ∧ a ≠ 104 ∧ a ≠ 105) → a ≠ 102 → Z a = I a := fun a ha hb => by
    rw [p8 a (by omega)]; exact i' a (by omega)
  have z1 : Z 1 = txR (I 1) (nI 0) (-1) := by rw [p8 1 (by omega)]; exact q2
  have z3 : Z 3 = C := by rw [p8 3 (by omega)]; exact q3
  rw [i' 97 (by omega)] at p3
  rw [i' 98 (by omega)] at p4
  rw [i' 99 (by omega)] at p5
  rw [i' 102 (by omega)] at p7
  obtain ⟨c, cle, e1, e2, e3⟩ := h.2.2.1.2.2.2.1
  have hold : ∀ j, j < c' → j ≠ k → j < c := fun j h1 h2 => hold j h1 h2 c e1 cle
  have eD : ∀ j, j = k → ∀ i, i < 121 → Z 102 (121 * (2 * 0 + j) + i) = D i := fun j hj i hi => by
    subst hj
    rw [p7, show 2 * 0 + j = j by omega]
    unfold stF
    rw [if_pos ⟨by omega, by omega⟩, Nat.add_sub_cancel_left]
  have eO : ∀ j, j < 2 → j ≠ k → ∀ i, i < 121 → Z 102 (121 * (2 * 0 + j) + i) = I 102 (121 * (2 * 0 + j) + i) := fun j hj hn i hi => by
    rw [p7]
    unfold stF
    rw [if_neg (by omega)]
  refine ⟨p1, INV_mk h q6.1 (q6.2 39 (by omega)) (fun a ha => q6.2 a (by omega)) (fun j _ => by rw [zc 68 (by omega) (by decide)]) (zc 121 (by omega) (by decide)) (fun a ha => zc a (by omega) (by omega)) (fun s h1 h2 => ⟨by rw [p3, vup_ne (by omega)], by rw [p4, vup_ne (by omega)], by rw [p5, vup_ne (by omega)], fun j _ => by rw [zc 96 (by omega) (by decide)], fun j _ => by rw [z100]; exact hM _ (by omega), ?_, ?_, ?_⟩) ⟨⟨0, by decide, by rw [z1]; rfl, by rw [p3, vup_eq], fun j hj => absurd hj (Nat.not_lt_zero _)⟩, ⟨by rw [z1, p4, vup_eq]; rfl, by rw [z1, p5, vup_eq]; rfl⟩, TDo_cg h.2.2.1.2.2.1 (by rw [show (1 + 2 : Nat) = 3 from rfl, z3]; exact hC0) (by rw [z100]; exact hM 0 (by decide)) (fun m hm r i hr _ => by rw [zo _ (by omega) (by omega) (by omega) (by omega)]) (fun i _ => by rw [zc 101 (by omega) (by decide)]), ?_, TDg_cg h.2.2.1.2.2.2.2 (by rw [show (1 + 2 : Nat) = 3 from rfl, z3]; exact hC2) (by rw [z100]; exact hM 2 (by decide)) (fun m hm r i hr _ _ => by rw [zo _ (by omega) (by omega) (by omega) (by omega)]) (fun i _ => by rw [zc 103 (by omega) (by decide)])⟩⟩
  · intro j hj; rw [zc 101 (by omega) (by decide)]
  · intro j hj
    rw [p7]
    unfold stF
    rw [if_neg (by omega)]
  · intro j hj; rw [zc 103 (by omega) (by decide)]
  · refine ⟨c', hc2, by rw [show (1 + 2 : Nat) = 3 from rfl, z3]; exact hC1, by rw [z100]; exact hMk, fun j hj => ?_⟩
    by_cases c : j = k
    · subst c
      obtain ⟨c1, hD⟩ := hP
      have en : c1 = c2 := by have := hD.d0.symm.trans hO.d0; have := congrArg Int32.toNatClampNeg this; rw [nI_clamp (by have := hD.c40; omega), nI_clamp (by have := hO.c40; omega)] at this; exact this
      subst en
      exact ⟨c1, WD_cg hD (fun r i hr _ hi => by rw [show 1 + 23 + 4 * j + r = 24 + 4 * j + r by omega, zk _ (by omega) (by omega)]) (eD j rfl), OKw_cg hO (eD j rfl)⟩
    · obtain ⟨c3, a1, a2⟩ := e3 j (hold j hj c)
      exact ⟨c3, WD_cg a1 (fun r i hr _ hi => by rw [zo _ (by omega) (by omega) (by omega) (by omega)]) (eO j (by omega) c), OKw_cg a2 (eO j (by omega) c)⟩
theorem st_tx2 {S : Nat × (Nat → Int32)} {I : mI} {J : mJ} {R : mR} {n : Nat} {x y : Int32} {k c' : Nat} {C : Nat → Int32} {D : Nat → Int32} {c2 : Nat} (h : INV I R n) (hkc : k < c') (hc2 : c' ≤ 2) (hC2 : C 2 = nI c') (hC0 : C 0 = I 3 0) (hC1 : C 1 = I 3 1) {CM : Nat → Int32} (hMk : CM 2 = nI c') (hM : ∀ j, j ≠ 2 → CM j = I 100 j) (hold : ∀ j, j < c' → j ≠ k → ∀ c, I 3 2 = nI c → c ≤ 2 → j < c) (hO : OKg D c2)
    (hc : AW S 40 YS_text n n (txQ I R (nI k) (nI 0) (-1) C (33 + 3 * k) (35 + 3 * k) (fun X => ∃ c1, LD X (33 + 3 * k) D c1)) 0 (lv_args 0 (.ref 0 :: [.int x, .int y])) [] I J R n) (hm : ∀ K J' R', m_fit K → m_fin R' → (∀ a, 59 < a → K a = I a) → AW S 40 YM_text n n (txN K R' (nI k) (nI 0) (-1) CM 103 (stF D (K 103) (17 * k) 17)) 0 (lv_args 0 (.ref 95 :: [.int x, .int y])) [] K J' R' n) : STEP S YS_text YM_text [.int x, .int y] I J R n := by
  refine ⟨.int (nI k), n, rt_i, Nat.le_refl _, h.n1.2, a_wk hc (fun w I' J' R' q => ?_)⟩
  obtain ⟨q1, q2, q3, q4, hP, q6⟩ := q
  refine ⟨q1, a_fit (fun hf => a_wk (hm I' J' R' hf q6.1 (fun a ha => q4 a (Or.inr ha))) (fun w2 Z J2 R2 p => ?_))⟩
  obtain ⟨p1, p2, p3, p4, p5, z100, p7, p8⟩ := p
  subst p2
  have zo : ∀ a, a < 40 → a ≠ 1 → a ≠ 3 → (a < 33 + 3 * k ∨ 35 + 3 * k < a) → Z a = I a := fun a h1 h2 h3 h4 => by
    rw [p8 a (by omega)]; exact q4 a (by omega)
  have zk : ∀ a, 33 + 3 * k ≤ a → a < 40 → Z a = I' a := fun a h1 h2 => p8 a (by omega)
  have i' : ∀ a, 59 < a → I' a = I a := fun a ha => q4 a (Or.inr ha)
  have zc : ∀ a, (59 < a ∧ a < 95) ∨ a = 96 ∨ (100 < a ∧ a ≠ 104 ∧ a ≠ 105) → a ≠ 103 → Z a = I a := fun a ha hb => by
    rw [p8 a (by omega)]; exact i' a (by omega)
  have z1 : Z 1 = txR (I 1) (nI 0) (-1) := by rw [p8 1 (by omega)]; exact q2
  have z3 : Z 3 = C := by rw [p8 3 (by omega)]; exact q3
  rw [i' 97 (by omega)] at p3
  rw [i' 98 (by omega)] at p4
  rw [i' 99 (by omega)] at p5
  rw [i' 103 (by omega)] at p7
  obtain ⟨c, cle, e1, e2, e3⟩ := h.2.2.1.2.2.2.2
  have hold : ∀ j, j < c' → j ≠ k → j < c := fun j h1 h2 => hold j h1 h2 c e1 cle
  have eD : ∀ j, j = k → ∀ i, i < 17 → Z 103 (17 * (2 * 0 + j) + i) = D i := fun j hj i hi => by
    subst hj
    rw [p7, show 2 * 0 + j = j by omega]
    unfold stF
    rw [if_pos ⟨by omega, by omega⟩, Nat.add_sub_cancel_left]
  have eO : ∀ j, j < 2 → j ≠ k → ∀ i, i < 17 → Z 103 (17 * (2 * 0 + j) + i) = I 103 (17 * (2 * 0 + j) + i) := fun j hj hn i hi => by
    rw [p7]
    unfold stF
    rw [if_neg (by omega)]
  refine ⟨p1, INV_mk h q6.1 (q6.2 39 (by omega)) (fun a ha => q6.2 a (by omega)) (fun j _ => by rw [zc 68 (by omega) (by decide)]) (zc 121 (by omega) (by decide)) (fun a ha => zc a (by omega) (by omega)) (fun s h1 h2 => ⟨by rw [p3, vup_ne (by omega)], by rw [p4, vup_ne (by omega)], by rw [p5, vup_ne (by omega)], fun j _ => by rw [zc 96 (by omega) (by decide)], fun j _ => by rw [z100]; exact hM _ (by omega), ?_, ?_, ?_⟩) ⟨⟨0, by decide, by rw [z1]; rfl, by rw [p3, vup_eq], fun j hj => absurd hj (Nat.not_lt_zero _)⟩, ⟨by rw [z1, p4, vup_eq]; rfl, by rw [z1, p5, vup_eq]; rfl⟩, TDo_cg h.2.2.1.2.2.1 (by rw [show (1 + 2 : Nat) = 3 from rfl, z3]; exact hC0) (by rw [z100]; exact hM 0 (by decide)) (fun m hm r i hr _ => by rw [zo _ (by omega) (by omega) (by omega) (by omega)]) (fun i _ => by rw [zc 101 (by omega) (by decide)]), TDw_cg h.2.2.1.2.2.2.1 (by rw [show (1 + 2 : Nat) = 3 from rfl, z3]; exact hC1) (by rw [z100]; exact hM 1 (by decide)) (fun m hm r i hr _ _ => by rw [zo _ (by omega) (by omega) (by omega) (by omega)]) (fun i _ => by rw [zc 102 (by omega) (by decide)]), ?_⟩⟩
  · intro j hj; rw [zc 101 (by omega) (by decide)]
  · intro j hj; rw [zc 102 (by omega) (by decide)]
  · intro j hj
    rw [p7]
    unfold stF
    rw [if_neg (by omega)]
  · refine ⟨c', hc2, by rw [show (1 + 2 : Nat) = 3 from rfl, z3]; exact hC2, by rw [z100]; exact hMk, fun j hj => ?_⟩
    by_cases c : j = k
    · subst c
      obtain ⟨c1, hD⟩ := hP
      have en : c1 = c2 := by have := hD.d0.symm.trans hO.d0; have := congrArg Int32.toNatClampNeg this; rw [nI_clamp (by have := hD.c8; omega), nI_clamp (by have := hO.c8; omega)] at this; exact this
      subst en
      exact ⟨c1, LD_cg hD (fun r i hr _ hi => by rw [show 1 + 32 + 3 * j + r = 33 + 3 * j + r by omega, zk _ (by omega) (by omega)]) (eD j rfl), OKg_cg hO (eD j rfl)⟩
    · obtain ⟨c3, a1, a2⟩ := e3 j (hold j hj c)
      exact ⟨c3, LD_cg a1 (fun r i hr _ hi => by rw [zo _ (by omega) (by omega) (by omega) (by omega)]) (eO j (by omega) c), OKg_cg a2 (eO j (by omega) c)⟩
