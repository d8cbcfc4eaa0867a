theorem cpR_g {f : Nat → Int32} {w fr to : Nat} (hne : fr ≠ to) : ∀ m, m ≤ w → (∀ j, j < m → cpRN f w fr to m (w * to + j) = f (w * fr + j)) ∧ ∀ i, i < w * to ∨ w * to + m ≤ i → cpRN f w fr to m i = f i := by
  have hsep : ∀ j, j < w → w * fr + j < w * to ∨ w * to + w ≤ w * fr + j := fun j hj => by
    rcases Nat.lt_or_ge fr to with q | q
    · have := Nat.mul_le_mul_left w (show fr + 1 ≤ to from q)
      rw [Nat.mul_add, Nat.mul_one] at this
      exact Or.inl (by omega)
    · have := Nat.mul_le_mul_left w (show to + 1 ≤ fr by omega)
      rw [Nat.mul_add, Nat.mul_one] at this
      exact Or.inr (by omega)
  intro m
  induction m with
  | zero => intro _; exact ⟨fun j hj => absurd hj (Nat.not_lt_zero _), fun i _ => rfl⟩
  | succ m ih =>
    intro hm
    obtain ⟨a, b⟩ := ih (by omega)
    have e : cpRN f w fr to (m + 1) = va_up (cpRN f w fr to m) (w * to + m) (cpRN f w fr to m (w * fr + m)) := rfl
    rw [e]
    refine ⟨fun j hj => ?_, fun i hi => ?_⟩
    · by_cases c : j = m
      · subst c; rw [vup_eq]; exact b _ (by rcases hsep j (by omega) with q | q <;> omega)
      · rw [vup_ne (by omega)]; exact a j (by omega)
    · rw [vup_ne (by omega)]; exact b i (by omega)
theorem cpR_y {f : Nat → Int32} {w fr to j : Nat} (hne : fr ≠ to) (hj : j < w) : cpRN f w fr to w (w * to + j) = f (w * fr + j) := (cpR_g hne w (Nat.le_refl _)).1 j hj
theorem cpR_n {f : Nat → Int32} {w fr to s j : Nat} (hne : fr ≠ to) (hs : s ≠ to) (hj : j < w) : cpRN f w fr to w (w * s + j) = f (w * s + j) := by
  refine (cpR_g hne w (Nat.le_refl _)).2 _ ?_
  rcases Nat.lt_or_ge s to with q | q
  · have := Nat.mul_le_mul_left w (show s + 1 ≤ to from q)
    rw [Nat.mul_add, Nat.mul_one] at this
    exact Or.inl (by omega)
  · have := Nat.mul_le_mul_left w (show to + 1 ≤ s by omega)
    rw [Nat.mul_add, Nat.mul_one] at this
    exact Or.inr (by omega)
theorem cpA_o {X : mI} {fr to a : Nat} (h : a < 96 ∨ 103 < a) : cpA X fr to a = X a := by
  unfold cpA
  rw [m_row_ne (by omega), m_row_ne (by omega), m_row_ne (by omega), m_row_ne (by omega), m_row_ne (by omega), m_row_ne (by omega), m_row_ne (by omega), m_row_ne (by omega)]
theorem cpA_y {X : mI} {fr to : Nat} (hne : fr ≠ to) : SLe (cpA X fr to) X to fr := by
  have w1 : ∀ f : Nat → Int32, cpRN f 1 fr to 1 to = f fr := fun f => by have := cpR_y (f := f) (w := 1) (j := 0) hne (by decide); rw [Nat.one_mul, Nat.one_mul, Nat.add_zero, Nat.add_zero] at this; exact this
  refine ⟨w1 (X 97), w1 (X 98), w1 (X 99), fun j hj => cpR_y (f := X 96) hne hj, fun j hj => cpR_y (f := X 100) hne hj, fun j hj => cpR_y (f := X 101) hne hj, fun j hj => cpR_y (f := X 102) hne hj, fun j hj => cpR_y (f := X 103) hne hj⟩
theorem cpA_n {X : mI} {fr to s : Nat} (hne : fr ≠ to) (hs : s ≠ to) : SLe (cpA X fr to) X s s := by
  have w1 : ∀ f : Nat → Int32, cpRN f 1 fr to 1 s = f s := fun f => by have := cpR_n (f := f) (w := 1) (j := 0) hne hs (by decide); rw [Nat.one_mul, Nat.add_zero] at this; exact this
  refine ⟨w1 (X 97), w1 (X 98), w1 (X 99), fun j hj => cpR_n (f := X 96) hne hs hj, fun j hj => cpR_n (f := X 100) hne hs hj, fun j hj => cpR_n (f := X 101) hne hs hj, fun j hj => cpR_n (f := X 102) hne hs hj, fun j hj => cpR_n (f := X 103) hne hs hj⟩
theorem SLe.row {Z X Y : mI} {s' s : Nat} (h : SLe Z X s' s) (e : ∀ a, 96 ≤ a → a ≤ 103 → X a = Y a) : SLe Z Y s' s := by
  obtain ⟨a1, a2, a3, a4, a5, a6, a7, a8⟩ := h
  exact ⟨by rw [← e 97 (by decide) (by decide)]; exact a1, by rw [← e 98 (by decide) (by decide)]; exact a2, by rw [← e 99 (by decide) (by decide)]; exact a3, by rw [← e 96 (by decide) (by decide)]; exact a4, by rw [← e 100 (by decide) (by decide)]; exact a5, by rw [← e 101 (by decide) (by decide)]; exact a6, by rw [← e 102 (by decide) (by decide)]; exact a7, by rw [← e 103 (by decide) (by decide)]; exact a8⟩
theorem SLe.row2 {Z Z' X : mI} {s' s : Nat} (h : SLe Z X s' s) (e : ∀ a, 96 ≤ a → a ≤ 103 → Z' a = Z a) : SLe Z' X s' s := by
  obtain ⟨a1, a2, a3, a4, a5, a6, a7, a8⟩ := h
  exact ⟨by rw [e 97 (by decide) (by decide)]; exact a1, by rw [e 98 (by decide) (by decide)]; exact a2, by rw [e 99 (by decide) (by decide)]; exact a3, by rw [e 96 (by decide) (by decide)]; exact a4, by rw [e 100 (by decide) (by decide)]; exact a5, by rw [e 101 (by decide) (by decide)]; exact a6, by rw [e 102 (by decide) (by decide)]; exact a7, by rw [e 103 (by decide) (by decide)]; exact a8⟩
theorem cpl_w : cpW cplTold 38 := fun e he => (by decide : ∀ e ∈ cplTold, e.1 < 38) e he
theorem vuo_eq {α : Type} {f : Nat → α} {k : Nat} {x : α} : va_up f k x k = x := if_pos rfl
theorem vuo_ne {α : Type} {f : Nat → α} {k j : Nat} {x : α} (h : j ≠ k) : va_up f k x j = f j := if_neg h
theorem tld_in {i : Nat} (h : i < 3) : (122 + 38 * i) ∈ m_tlds := (by decide : ∀ i, i < 3 → (122 + 38 * i) ∈ m_tlds) i h
theorem bad3 {x : Int32} : (f_in x (nI 0) (nI 2) = 0 ∧ (x < 0 ∨ nI 3 ≤ x)) ∨ ∃ k, k < 3 ∧ x = nI k := by
  rcases rg (x := x) (a := 0) (c := 2) (by decide) (by decide) with ⟨a, b⟩ | ⟨w, _, hw, rfl, _⟩
  · refine Or.inl ⟨a, b.elim Or.inl (fun q => Or.inr ?_)⟩
    have t2 : (nI 2).toInt = 2 := rfl
    have t3 : (nI 3).toInt = 3 := rfl
    rw [Int32.lt_iff_toInt_lt, t2] at q
    rw [Int32.le_iff_toInt_le, t3]; omega
  · exact Or.inr ⟨w, by omega, rfl⟩
theorem st_again {S : Nat × (Nat → Int32)} {I : mI} {J : mJ} {R : mR} {n : Nat} (h : INV I R n) (x : Int32) : STEP S YS_again YM_again [.int x] I J R n := by
  have hn := h.n1.1
  have hR := h.1
  have h68 := h.2.1
  obtain ⟨ni, i1, i2, i3, i4, i5⟩ := h.2.2.2
  rcases bad3 (x := x) with ⟨a, b⟩ | ⟨k, hk, rfl⟩
  · exact st_q h (q_run (c_S_again0 hn hR b) KP.refl hR) (fun K J' R' kp hR' => q_run (c_M_again0 hn hR' a) kp_cd hR')
  · rcases i5 k hk with ⟨a, b⟩ | ⟨i, hi, a1, a2, a3, a4⟩
    · exact st_q h (q_run (c_S_again2 hn hR hk a) KP.refl hR) (fun K J' R' kp hR' => q_run (c_M_again2 hn hR' hk (by rw [kp.1 121 (by omega)]; exact b)) kp_cd hR')
    · have o1 : ∀ y, y = 0 ∨ 39 ≤ y → (cpB I (122 + 38 * i) 1 cplTold) y = I y := fun y hy => cp_off cpl_w (by omega)
      have r := c_S_again1 (S := S) (d := 37) (I := I) (J := J) hn hR hk (tld_in (by omega)) a3 (by omega) (by omega) a1
      have hC : CLe (cpB I (122 + 38 * i) 1 cplTold) I 1 (122 + 38 * i) := fun q j hq => cp_at hq
      generalize cpB I (122 + 38 * i) 1 cplTold = K at r o1 hC
      have r2 := c_M_again1 (S := S) (d := 38) (I := K) (J := J) hn hR hk (by rw [o1 121 (by omega)]; exact a2)
      have o2 : ∀ y, y = 0 ∨ 39 ≤ y → y ≠ 95 → (m_up K 95 0 0) y = I y := fun y h1 h2 => by rw [m_up_ne h2]; exact o1 y h1
      have o3 : ∀ y, y = 0 ∨ 39 ≤ y → y ≠ 95 → (y < 96 ∨ 103 < y) → (cpA (m_up K 95 0 0) (k + 1) 0) y = I y := fun y h1 h2 h3 => by rw [cpA_o h3]; exact o2 y h1 h2
      refine st_run r r2 (Nat.le_refl _) h.n1.2 (INV_mk h hR rfl (fun _ _ => rfl) (fun j _ => by rw [o3 68 (by omega) (by omega) (by omega)]) (o3 121 (by omega) (by omega) (by omega)) (fun y hy => o3 y (by omega) (by omega) (by omega)) (fun s h1 h2 => ?_) (TD_c a4 (fun q j hq => ?_) ?_))
      · exact (cpA_n (X := m_up K 95 0 0) (fr := k + 1) (to := 0) (by omega) (by omega)).row (fun y h1 h2 => o2 y (by omega) (by omega))
      · have hq38 : q < 38 := by
          obtain ⟨e, e1, e2⟩ := List.any_eq_true.mp hq
          have := cpl_w e e1
          rw [Bool.and_eq_true] at e2
          have := eq_of_beq e2.1
          omega
        rw [cpA_o (by omega), m_up_ne (by omega)]; exact hC q j hq
      · exact (cpA_y (X := m_up K 95 0 0) (fr := k + 1) (to := 0) (by omega)).row (fun y h1 h2 => o2 y (by omega) (by omega))
theorem cpl_38 {q j : Nat} (hq : cpH cplTold q j = true) : q < 38 := by
  obtain ⟨e, e1, e2⟩ := List.any_eq_true.mp hq
  have := cpl_w e e1
  rw [Bool.and_eq_true] at e2
  have := eq_of_beq e2.1
  omega
/-- what an image leaves: the told in the class's cell t and in the reference's place k + 1 -/
theorem IM_new {I Z : mI} {R R' : mR} {n n' t k ni ni' : Nat} (h : INV I R n) (hk : k < 3) (hR' : m_fin R') (t1 : 122 ≤ t) (hni : ni' ≤ 3) (hn' : n' = 122 + 38 * ni')
    (h68 : Z 68 = I 68) (hb : ∀ y, y < 39 → Z y = I y) (hC : CLe Z I t 1) (hCo : ∀ y, 122 ≤ y → (y < t ∨ t + 38 ≤ y) → y < n → Z y = I y) (hS0 : SLe Z I 0 0) (hSk : SLe Z I (k + 1) 0) (hSn : ∀ s, 1 ≤ s → s ≠ k + 1 → SLe Z I s s) (hZk : Z 121 k = 1) (hZo : ∀ j, j ≠ k → Z 121 j = I 121 j)
    (hRk : R' 39 k = some t) (hRo : ∀ j, j ≠ k → R' 39 j = R 39 j) (htol : tolR R' t) (hRr : ∀ y, 122 ≤ y → y < n → (y < t ∨ t + 38 ≤ y) → R' y = R y)
    (him : ∀ i, i < ni' → ∃ j, j < 3 ∧ R' 39 j = some (122 + 38 * i)) (hti : ∃ i, i < ni' ∧ t = 122 + 38 * i) (hold : ∃ m, m ≤ ni' ∧ n = 122 + 38 * m) (hun : ∀ j, j < 3 → j ≠ k → ¬ R 39 j = some t) : INV Z R' n' := by
  obtain ⟨mi, i1, i2, i3, i4, i5⟩ := h.2.2.2
  obtain ⟨m0, hm0, e0⟩ := hold
  have em : mi = m0 := by omega
  obtain ⟨it, hit, et⟩ := hti
  refine ⟨hR', fun j hj => by rw [h68]; exact h.2.1 j hj, TD_c h.2.2.1 (fun q j hq => by have := cpl_38 hq; rw [hb _ (by omega)]) hS0, ni', hni, hn', him, fun a a' u ha ha' e1 e2 => ?_, fun j hj => ?_⟩
  · by_cases c1 : a = k
    · by_cases c2 : a' = k
      · rw [c1, c2]
      · rw [hRo a' c2] at e2
        rw [c1, hRk] at e1
        exact absurd (e2.trans e1.symm) (hun a' ha' c2)
    · by_cases c2 : a' = k
      · rw [hRo a c1] at e1
        rw [c2, hRk] at e2
        exact absurd (e1.trans e2.symm) (hun a ha c1)
      · rw [hRo a c1] at e1; rw [hRo a' c2] at e2; exact i4 a a' u ha ha' e1 e2
  · by_cases c : j = k
    · subst c
      exact Or.inr ⟨it, hit, by rw [hRk, et], hZk, by rw [← et]; exact htol, by rw [← et]; exact TD_c h.2.2.1 hC hSk⟩
    · rcases i5 j hj with ⟨a, b⟩ | ⟨i, hi, a1, a2, a3, a4⟩
      · exact Or.inl ⟨by rw [hRo j c]; exact a, by rw [hZo j c]; exact b⟩
      · have nt : 122 + 38 * i ≠ t := fun q => hun j hj c (by rw [a1, q])
        have ni2 : i ≠ it := fun q => nt (by rw [q, et])
        refine Or.inr ⟨i, by omega, by rw [hRo j c]; exact a1, by rw [hZo j c]; exact a2, tolR_cg a3 (fun r hr => hRr _ (by omega) (by omega) (by omega)), TD_c a4 (fun q u hq => by have := cpl_38 hq; rw [hCo _ (by omega) (by omega) (by omega)]) (hSn (j + 1) (by omega) (by omega))⟩
theorem st_image {S : Nat × (Nat → Int32)} {I : mI} {J : mJ} {R : mR} {n : Nat} (h : INV I R n) (hz : zr I J R n) (x : Int32) : STEP S YS_image YM_image [.int x] I J R n := by
  have hn := h.n1.1
  have hR := h.1
  obtain ⟨ni, i1, i2, i3, i4, i5⟩ := h.2.2.2
  rcases bad3 (x := x) with ⟨a, b⟩ | ⟨k, hk, rfl⟩
  · exact st_q h (q_run (c_S_image0 hn hR b) KP.refl hR) (fun K J' R' kp hR' => q_run (c_M_image0 hn hR' a) kp_cd hR')
  · rcases i5 k hk with ⟨a, b⟩ | ⟨i, hi, a1, a2, a3, a4⟩
    · have hlt : ni < 3 := by
        rcases Nat.lt_or_ge ni 3 with q | q
        · exact q
        · exfalso
          obtain ⟨k0, u0, w0⟩ := i3 0 (by omega)
          obtain ⟨k1, u1, w1⟩ := i3 1 (by omega)
          obtain ⟨k2, u2, w2⟩ := i3 2 (by omega)
          have n0 : k0 ≠ k := fun e => by rw [e, a] at w0; exact absurd w0 (by simp)
          have n1 : k1 ≠ k := fun e => by rw [e, a] at w1; exact absurd w1 (by simp)
          have n2 : k2 ≠ k := fun e => by rw [e, a] at w2; exact absurd w2 (by simp)
          have d01 : k0 ≠ k1 := fun e => by rw [e, w1] at w0; exact absurd w0 (by simp)
          have d02 : k0 ≠ k2 := fun e => by rw [e, w2] at w0; exact absurd w0 (by simp)
          have d12 : k1 ≠ k2 := fun e => by rw [e, w2] at w1; exact absurd w1 (by simp)
          omega
      have hm : m_fin (m_up (rfTold R n) 39 k (some n)) := m_fin_im hR hn
      have r := c_S_image2 (S := S) (d := 37) (I := I) (J := J) hR hk (t := n) (by rw [i2]; exact tld_in hlt) hn a hz
      have o1 : ∀ y, y < n → (cpB (m_up I n 3 (-1)) 1 n cplTold) y = I y := fun y hy => by rw [cp_off cpl_w (by omega), m_up_ne (by omega)]
      have hC : CLe (cpB (m_up I n 3 (-1)) 1 n cplTold) I n 1 := fun q j hq => by have := cpl_38 hq; rw [cp_at hq, m_up_ne (by omega)]
      generalize cpB (m_up I n 3 (-1)) 1 n cplTold = K at r o1 hC
      have r2 := c_M_image1 (S := S) (d := 38) (n := n + 38) (I := K) (J := J) (by omega) hm hk
      have o2 : ∀ y, y < n → y ≠ 95 → (m_up K 95 0 0) y = I y := fun y h1 h2 => by rw [m_up_ne h2]; exact o1 y h1
      have o3 : ∀ y, y < n → y ≠ 95 → y ≠ 121 → (y < 96 ∨ 103 < y) → (m_up (cpA (m_up K 95 0 0) 0 (k + 1)) 121 k 1) y = I y := fun y h1 h2 h4 h3 => by rw [m_up_ne h4, cpA_o h3]; exact o2 y h1 h2
      have e121 : (m_up (cpA (m_up K 95 0 0) 0 (k + 1)) 121 k 1) 121 = va_up (I 121) k 1 := by rw [m_up_eq, cpA_o (by omega), o2 121 (by omega) (by omega)]
      have eS : ∀ y, 96 ≤ y → y ≤ 103 → (m_up (cpA (m_up K 95 0 0) 0 (k + 1)) 121 k 1) y = (cpA (m_up K 95 0 0) 0 (k + 1)) y := fun y h1 h2 => m_up_ne (by omega)
      have hRo : ∀ y, y < n → y ≠ 39 → (m_up (rfTold R n) 39 k (some n)) y = R y := fun y h1 h2 => by rw [m_up_ne h2, rfTold_o (by omega)]
      have r39 : (m_up (rfTold R n) 39 k (some n)) 39 = va_up (R 39) k (some n) := by rw [m_up_eq, rfTold_o (by omega)]
      refine st_run r r2 (by omega) (by omega) (IM_new (n := n) (t := n) (ni' := ni + 1) (ni := ni) h hk hm hn (by omega) (by omega) (o3 68 (by omega) (by omega) (by omega) (by omega)) (fun y hy => o3 y (by omega) (by omega) (by omega) (by omega)) (fun q j hq => ?_) (fun y h1 h2 h3 => o3 y h3 (by omega) ?_ (by omega)) ?_ ?_ (fun s h1 h2 => ?_) (by rw [e121, vup_eq]) (fun j hj => by rw [e121, vup_ne hj]) (by rw [r39, vuo_eq]) (fun j hj => by rw [r39, vuo_ne hj]) (tolR_c (fun q hq => m_up_ne (show n + q ≠ 39 by omega)) tolR_rf) (fun y h1 h2 _ => hRo y h2 (by omega)) (fun i hi => ?_) ⟨ni, by omega, i2⟩ ⟨ni, by omega, i2⟩ (fun j hj hjk e => ?_))
      · have := cpl_38 hq
        rw [m_up_ne (by omega), cpA_o (by omega), m_up_ne (by omega)]; exact hC q j hq
      · omega
      · exact ((cpA_n (X := m_up K 95 0 0) (fr := 0) (to := k + 1) (by omega) (by omega)).row (fun y h1 h2 => o2 y (by omega) (by omega))).row2 eS
      · exact ((cpA_y (X := m_up K 95 0 0) (fr := 0) (to := k + 1) (by omega)).row (fun y h1 h2 => o2 y (by omega) (by omega))).row2 eS
      · exact ((cpA_n (X := m_up K 95 0 0) (fr := 0) (to := k + 1) (by omega) h2).row (fun y h1 h2 => o2 y (by omega) (by omega))).row2 eS
      · by_cases c : i = ni
        · exact ⟨k, hk, by rw [r39, vuo_eq, c, ← i2]⟩
        · obtain ⟨j, hj, ej⟩ := i3 i (by omega)
          have njk : j ≠ k := fun q => by rw [q, a] at ej; exact absurd ej (by simp)
          exact ⟨j, hj, by rw [r39, vuo_ne njk]; exact ej⟩
      · rcases i5 j hj with ⟨q, _⟩ | ⟨i, hi, q, _⟩
        · rw [q] at e; exact absurd e (by simp)
        · rw [q] at e
          have := Option.some.inj e
          omega
    · have o1 : ∀ y, y < 122 + 38 * i ∨ 122 + 38 * i + 38 ≤ y → (cpB I 1 (122 + 38 * i) cplTold) y = I y := fun y hy => cp_off cpl_w hy
      have r := c_S_image1 (S := S) (d := 37) (I := I) (J := J) hn hR hk (tld_in (by omega)) a3 (by omega) (by omega) a1
      have hC : CLe (cpB I 1 (122 + 38 * i) cplTold) I (122 + 38 * i) 1 := fun q j hq => cp_at hq
      generalize cpB I 1 (122 + 38 * i) cplTold = K at r o1 hC
      have r2 := c_M_image1 (S := S) (d := 38) (n := n) (I := K) (J := J) hn hR hk
      have o2 : ∀ y, y < 122 + 38 * i ∨ 122 + 38 * i + 38 ≤ y → y ≠ 95 → (m_up K 95 0 0) y = I y := fun y h1 h2 => by rw [m_up_ne h2]; exact o1 y h1
      have o3 : ∀ y, y < 122 + 38 * i ∨ 122 + 38 * i + 38 ≤ y → y ≠ 95 → y ≠ 121 → (y < 96 ∨ 103 < y) → (m_up (cpA (m_up K 95 0 0) 0 (k + 1)) 121 k 1) y = I y := fun y h1 h2 h4 h3 => by rw [m_up_ne h4, cpA_o h3]; exact o2 y h1 h2
      have e121 : (m_up (cpA (m_up K 95 0 0) 0 (k + 1)) 121 k 1) 121 = va_up (I 121) k 1 := by rw [m_up_eq, cpA_o (by omega), o2 121 (by omega) (by omega)]
      have eS : ∀ y, 96 ≤ y → y ≤ 103 → (m_up (cpA (m_up K 95 0 0) 0 (k + 1)) 121 k 1) y = (cpA (m_up K 95 0 0) 0 (k + 1)) y := fun y h1 h2 => m_up_ne (by omega)
      refine st_run r r2 (Nat.le_refl _) h.n1.2 (IM_new (n := n) (t := 122 + 38 * i) (ni' := ni) (ni := ni) h hk hR (by omega) i1 i2 (o3 68 (by omega) (by omega) (by omega) (by omega)) (fun y hy => o3 y (by omega) (by omega) (by omega) (by omega)) (fun q j hq => ?_) (fun y h1 h2 h3 => o3 y h2 (by omega) (by omega) (by omega)) ?_ ?_ (fun s h1 h2 => ?_) (by rw [e121, vup_eq]) (fun j hj => by rw [e121, vup_ne hj]) a1 (fun _ _ => rfl) a3 (fun _ _ _ _ => rfl) i3 ⟨i, hi, rfl⟩ ⟨ni, Nat.le_refl _, i2⟩ (fun j hj hjk e => hjk (i4 j k _ hj hk e a1)))
      · have := cpl_38 hq
        rw [m_up_ne (by omega), cpA_o (by omega), m_up_ne (by omega)]; exact hC q j hq
      · exact ((cpA_n (X := m_up K 95 0 0) (fr := 0) (to := k + 1) (by omega) (by omega)).row (fun y h1 h2 => o2 y (by omega) (by omega))).row2 eS
      · exact ((cpA_y (X := m_up K 95 0 0) (fr := 0) (to := k + 1) (by omega)).row (fun y h1 h2 => o2 y (by omega) (by omega))).row2 eS
      · exact ((cpA_n (X := m_up K 95 0 0) (fr := 0) (to := k + 1) (by omega) h2).row (fun y h1 h2 => o2 y (by omega) (by omega))).row2 eS
