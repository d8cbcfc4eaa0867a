def lnO (r : Nat) : Nat := if r = 0 then 3 else if r = 1 then 6 else if r = 8 then 16 else 10
theorem OD_cg {A A' : mI} {o o' : Nat} {D D' : Nat → Int32} {nl nw : Nat} (h : OD A o D nl nw) (hA : ∀ r j, r < 9 → j < lnO r → A' (o' + r) j = A (o + r) j) (hD : ∀ j, j < 75 → D' j = D j) : OD A' o' D' nl nw := by
  have l10 := h.l10
  refine OD.mk l10 h.w8 ?_ ?_ ?_ ?_ ?_ ?_ ?_ ?_ ?_ ?_ ?_ ?_ ?_
  · rw [show A' o' 0 = A' (o' + 0) 0 from rfl, hA 0 0 (by decide) (by decide), hD 0 (by decide)]; exact h.h0
  · rw [show A' o' 1 = A' (o' + 0) 1 from rfl, hA 0 1 (by decide) (by decide)]; exact h.a1
  · rw [hD 1 (by decide)]; exact h.d1
  · rw [show A' o' 2 = A' (o' + 0) 2 from rfl, hA 0 2 (by decide) (by decide)]; exact h.a2
  · rw [hD 2 (by decide)]; exact h.d2
  · intro j hj; rw [hA 1 j (by decide) (show j < 6 by omega), hD _ (by omega)]; exact h.mo j hj
  · intro j hj; rw [hA 2 j (by decide) (show j < 10 by omega), hD _ (by omega)]; exact h.ho j hj
  · intro j hj; rw [hA 3 j (by decide) (show j < 10 by omega), hD _ (by omega)]; exact h.ki j hj
  · intro j hj; rw [hA 4 j (by decide) (show j < 10 by omega), hD _ (by omega)]; exact h.fo j hj
  · intro j hj; rw [hA 5 j (by decide) (show j < 10 by omega), hD _ (by omega), hD _ (by omega)]; exact h.pa j hj
  · intro j hj; rw [hA 6 j (by decide) (show j < 10 by omega), hD _ (by omega)]; exact h.mi j hj
  · intro j hj; rw [hA 7 j (by decide) (show j < 10 by omega), hD _ (by omega)]; exact h.sh j hj
  · intro j hj; rw [hA 8 j (by decide) (show j < 16 by omega), hD _ (by omega)]; exact h.ti j hj
theorem OKo_cg {D D' : Nat → Int32} {nh nl nw : Nat} (h : OKo D nh nl nw) (hD : ∀ j, j < 75 → D' j = D j) : OKo D' nh nl nw := by
  refine OKo.mk h.nh1 h.nh6 h.l10 h.w8 (by rw [hD _ (by decide)]; exact h.d0) (by rw [hD _ (by decide)]; exact h.d1) (by rw [hD _ (by decide)]; exact h.d2) ?_ ?_ ?_ ?_ ?_ ?_ ?_
  · intro j hj; rw [hD _ (by omega)]; exact h.mo j hj
  · intro j hj; rw [hD _ (by omega)]; exact h.ho j hj
  · intro j hj; rw [hD _ (by omega)]; exact h.ki j hj
  · intro j hj; rw [hD _ (by omega)]; exact h.fo j hj
  · intro j hj; rw [hD _ (by omega), hD _ (by omega)]; exact h.mi j hj
  · intro j hj; rw [hD _ (by omega)]; exact h.ti j hj
  · exact h.lw.trans ⟨fun q j hj => by rw [hD _ (by omega)]; exact q j hj, fun q j hj => by have := q j hj; rw [hD _ (by omega)] at this; exact this⟩
theorem WD_cg {A A' : mI} {o o' : Nat} {D D' : Nat → Int32} {c : Nat} (h : WD A o D c) (hA : ∀ r j, r < 4 → (r = 0 → j < 1) → j < 40 → A' (o' + r) j = A (o + r) j) (hD : ∀ j, j < 121 → D' j = D j) : WD A' o' D' c := by
  have c40 := h.c40
  refine WD.mk c40 ?_ ?_ ?_ ?_ ?_
  · rw [show A' o' 0 = A' (o' + 0) 0 from rfl, hA 0 0 (by decide) (fun _ => by decide) (by decide)]; exact h.a0
  · rw [hD 0 (by decide)]; exact h.d0
  · intro j hj; rw [hA 1 j (by decide) (fun q => absurd q (by decide)) (by omega), hD _ (by omega)]; exact h.r1 j hj
  · intro j hj; rw [hA 2 j (by decide) (fun q => absurd q (by decide)) (by omega), hD _ (by omega)]; exact h.r2 j hj
  · intro j hj; rw [hA 3 j (by decide) (fun q => absurd q (by decide)) (by omega), hD _ (by omega)]; exact h.r3 j hj
theorem OKw_cg {D D' : Nat → Int32} {c : Nat} (h : OKw D c) (hD : ∀ j, j < 121 → D' j = D j) : OKw D' c := by
  have c40 := h.c40
  refine OKw.mk c40 (by rw [hD _ (by decide)]; exact h.d0) (fun k hk => ?_)
  rw [hD _ (by omega), hD _ (by omega), hD _ (by omega)]; exact h.r k hk
theorem LD_cg {A A' : mI} {o o' : Nat} {D D' : Nat → Int32} {c : Nat} (h : LD A o D c) (hA : ∀ r j, r < 3 → (r = 0 → j < 1) → j < 8 → A' (o' + r) j = A (o + r) j) (hD : ∀ j, j < 17 → D' j = D j) : LD A' o' D' c := by
  have c8 := h.c8
  refine LD.mk c8 ?_ ?_ ?_ ?_
  · rw [show A' o' 0 = A' (o' + 0) 0 from rfl, hA 0 0 (by decide) (fun _ => by decide) (by decide)]; exact h.a0
  · rw [hD 0 (by decide)]; exact h.d0
  · intro j hj; rw [hA 1 j (by decide) (fun q => absurd q (by decide)) (by omega), hD _ (by omega)]; exact h.r1 j hj
  · intro j hj; rw [hA 2 j (by decide) (fun q => absurd q (by decide)) (by omega), hD _ (by omega)]; exact h.r2 j hj
theorem OKg_cg {D D' : Nat → Int32} {c : Nat} (h : OKg D c) (hD : ∀ j, j < 17 → D' j = D j) : OKg D' c := by
  have c8 := h.c8
  refine OKg.mk c8 (by rw [hD _ (by decide)]; exact h.d0) (fun k hk => ?_)
  rw [hD _ (by omega), hD _ (by omega)]; exact h.r k hk
/-- what is told, on both sides: tape, fault, offices, weeks, logs -/
def TDt (I : mI) (t s : Nat) : Prop := ∃ len, len ≤ 600 ∧ I t 1 = nI len ∧ I 97 s = nI len ∧ ∀ j, j < len → I (t + 1) j = I 96 (600 * s + j)
def TDo (I : mI) (t s : Nat) : Prop := ∃ c, c ≤ 2 ∧ I (t + 2) 0 = nI c ∧ I 100 (3 * s) = nI c ∧ ∀ k, k < c → ∃ nh nl nw, OD I (t + 4 + 9 * k) (fun j => I 101 (75 * (2 * s + k) + j)) nl nw ∧ OKo (fun j => I 101 (75 * (2 * s + k) + j)) nh nl nw
def TDw (I : mI) (t s : Nat) : Prop := ∃ c, c ≤ 2 ∧ I (t + 2) 1 = nI c ∧ I 100 (3 * s + 1) = nI c ∧ ∀ k, k < c → ∃ e, WD I (t + 23 + 4 * k) (fun j => I 102 (121 * (2 * s + k) + j)) e ∧ OKw (fun j => I 102 (121 * (2 * s + k) + j)) e
def TDg (I : mI) (t s : Nat) : Prop := ∃ c, c ≤ 2 ∧ I (t + 2) 2 = nI c ∧ I 100 (3 * s + 2) = nI c ∧ ∀ k, k < c → ∃ e, LD I (t + 32 + 3 * k) (fun j => I 103 (17 * (2 * s + k) + j)) e ∧ OKg (fun j => I 103 (17 * (2 * s + k) + j)) e
def TD (I : mI) (t s : Nat) : Prop := TDt I t s ∧ (I t 2 = I 98 s ∧ I t 3 = I 99 s) ∧ TDo I t s ∧ TDw I t s ∧ TDg I t s
theorem TDt_cg {I I' : mI} {t t' s s' : Nat} (h : TDt I t s) (h1 : I' t' 1 = I t 1) (h2 : I' 97 s' = I 97 s) (h3 : ∀ j, j < 600 → I' (t' + 1) j = I (t + 1) j) (h4 : ∀ j, j < 600 → I' 96 (600 * s' + j) = I 96 (600 * s + j)) : TDt I' t' s' := by
  obtain ⟨len, a1, a2, a3, a4⟩ := h
  exact ⟨len, a1, h1.trans a2, h2.trans a3, fun j hj => by rw [h3 j (by omega), h4 j (by omega)]; exact a4 j hj⟩
theorem TDo_cg {I I' : mI} {t t' s s' : Nat} (h : TDo I t s) (h1 : I' (t' + 2) 0 = I (t + 2) 0) (h2 : I' 100 (3 * s') = I 100 (3 * s)) (h3 : ∀ k, k < 2 → ∀ r j, r < 9 → j < lnO r → I' (t' + 4 + 9 * k + r) j = I (t + 4 + 9 * k + r) j) (h4 : ∀ j, j < 150 → I' 101 (150 * s' + j) = I 101 (150 * s + j)) : TDo I' t' s' := by
  obtain ⟨c, a1, a2, a3, a4⟩ := h
  refine ⟨c, a1, h1.trans a2, h2.trans a3, fun k hk => ?_⟩
  obtain ⟨nh, nl, nw, q1, q2⟩ := a4 k hk
  have hD : ∀ j, j < 75 → I' 101 (75 * (2 * s' + k) + j) = I 101 (75 * (2 * s + k) + j) := fun j hj => by
    have := h4 (75 * k + j) (by omega)
    rw [show 150 * s' + (75 * k + j) = 75 * (2 * s' + k) + j by omega, show 150 * s + (75 * k + j) = 75 * (2 * s + k) + j by omega] at this
    exact this
  exact ⟨nh, nl, nw, OD_cg q1 (h3 k (by omega)) hD, OKo_cg q2 hD⟩
theorem TDw_cg {I I' : mI} {t t' s s' : Nat} (h : TDw I t s) (h1 : I' (t' + 2) 1 = I (t + 2) 1) (h2 : I' 100 (3 * s' + 1) = I 100 (3 * s + 1)) (h3 : ∀ k, k < 2 → ∀ r j, r < 4 → (r = 0 → j < 1) → j < 40 → I' (t' + 23 + 4 * k + r) j = I (t + 23 + 4 * k + r) j) (h4 : ∀ j, j < 242 → I' 102 (242 * s' + j) = I 102 (242 * s + j)) : TDw I' t' s' := by
  obtain ⟨c, a1, a2, a3, a4⟩ := h
  refine ⟨c, a1, h1.trans a2, h2.trans a3, fun k hk => ?_⟩
  obtain ⟨e, q1, q2⟩ := a4 k hk
  have hD : ∀ j, j < 121 → I' 102 (121 * (2 * s' + k) + j) = I 102 (121 * (2 * s + k) + j) := fun j hj => by
    have := h4 (121 * k + j) (by omega)
    rw [show 242 * s' + (121 * k + j) = 121 * (2 * s' + k) + j by omega, show 242 * s + (121 * k + j) = 121 * (2 * s + k) + j by omega] at this
    exact this
  exact ⟨e, WD_cg q1 (h3 k (by omega)) hD, OKw_cg q2 hD⟩
theorem TDg_cg {I I' : mI} {t t' s s' : Nat} (h : TDg I t s) (h1 : I' (t' + 2) 2 = I (t + 2) 2) (h2 : I' 100 (3 * s' + 2) = I 100 (3 * s + 2)) (h3 : ∀ k, k < 2 → ∀ r j, r < 3 → (r = 0 → j < 1) → j < 8 → I' (t' + 32 + 3 * k + r) j = I (t + 32 + 3 * k + r) j) (h4 : ∀ j, j < 34 → I' 103 (34 * s' + j) = I 103 (34 * s + j)) : TDg I' t' s' := by
  obtain ⟨c, a1, a2, a3, a4⟩ := h
  refine ⟨c, a1, h1.trans a2, h2.trans a3, fun k hk => ?_⟩
  obtain ⟨e, q1, q2⟩ := a4 k hk
  have hD : ∀ j, j < 17 → I' 103 (17 * (2 * s' + k) + j) = I 103 (17 * (2 * s + k) + j) := fun j hj => by
    have := h4 (17 * k + j) (by omega)
    rw [show 34 * s' + (17 * k + j) = 17 * (2 * s' + k) + j by omega, show 34 * s + (17 * k + j) = 17 * (2 * s + k) + j by omega] at this
    exact this
  exact ⟨e, LD_cg q1 (h3 k (by omega)) hD, OKg_cg q2 hD⟩
/-- all rows of a told, and the reference's -/
theorem TD_rows {I I' : mI} {t s : Nat} (h : TD I t s) (h1 : ∀ r, r < 38 → I' (t + r) = I (t + r)) (h2 : ∀ a, 96 ≤ a → a ≤ 103 → I' a = I a) : TD I' t s := by
  obtain ⟨b1, ⟨b2, b3⟩, b4, b5, b6⟩ := h
  have e0 : I' t = I t := h1 0 (by decide)
  have rw2 : ∀ r, r < 38 → ∀ j, I' (t + r) j = I (t + r) j := fun r hr j => by rw [h1 r hr]
  refine ⟨TDt_cg b1 (by rw [e0]) (by rw [h2 97 (by decide) (by decide)]) (fun j _ => rw2 1 (by decide) j) (fun j _ => by rw [h2 96 (by decide) (by decide)]), ⟨by rw [e0, h2 98 (by decide) (by decide)]; exact b2, by rw [e0, h2 99 (by decide) (by decide)]; exact b3⟩, TDo_cg b4 (rw2 2 (by decide) 0) (by rw [h2 100 (by decide) (by decide)]) (fun k hk r j hr _ => ?_) (fun j _ => by rw [h2 101 (by decide) (by decide)]), TDw_cg b5 (rw2 2 (by decide) 1) (by rw [h2 100 (by decide) (by decide)]) (fun k hk r j hr _ _ => ?_) (fun j _ => by rw [h2 102 (by decide) (by decide)]), TDg_cg b6 (rw2 2 (by decide) 2) (by rw [h2 100 (by decide) (by decide)]) (fun k hk r j hr _ _ => ?_) (fun j _ => by rw [h2 103 (by decide) (by decide)])⟩
  · have := rw2 (4 + 9 * k + r) (by omega) j
    rw [show t + (4 + 9 * k + r) = t + 4 + 9 * k + r by omega] at this; exact this
  · have := rw2 (23 + 4 * k + r) (by omega) j
    rw [show t + (23 + 4 * k + r) = t + 23 + 4 * k + r by omega] at this; exact this
  · have := rw2 (32 + 3 * k + r) (by omega) j
    rw [show t + (32 + 3 * k + r) = t + 32 + 3 * k + r by omega] at this; exact this
/-- the images -/
def IMk (I : mI) (R : mR) (ni k : Nat) : Prop := (R 39 k = none ∧ I 121 k = 0) ∨ ∃ i, i < ni ∧ R 39 k = some (122 + 38 * i) ∧ I 121 k = 1 ∧ tolR R (122 + 38 * i) ∧ TD I (122 + 38 * i) (k + 1)
def IMG (I : mI) (R : mR) (n : Nat) : Prop := ∃ ni, ni ≤ 3 ∧ n = 122 + 38 * ni ∧ (∀ i, i < ni → ∃ k, k < 3 ∧ R 39 k = some (122 + 38 * i)) ∧ (∀ k k' t, k < 3 → k' < 3 → R 39 k = some t → R 39 k' = some t → k = k') ∧ ∀ k, k < 3 → IMk I R ni k
def INV (I : mI) (R : mR) (n : Nat) : Prop := m_fin R ∧ (∀ j, j < 5 → I 68 j = 0) ∧ TD I 1 0 ∧ IMG I R n
theorem INV.n1 {I : mI} {R : mR} {n : Nat} (h : INV I R n) : 122 ≤ n ∧ n ≤ 236 := by
  obtain ⟨ni, a, b, _⟩ := h.2.2.2
  omega
theorem offR_cg {R R' : mR} {o : Nat} (h : offR R o) (e : R' o = R o) : offR R' o := fun k hk => by rw [e]; exact h k hk
theorem wkR_cg {R R' : mR} {o : Nat} (h : wkR R o) (e : R' o = R o) : wkR R' o := fun k hk => by rw [e]; exact h k hk
theorem lgR_cg {R R' : mR} {o : Nat} (h : lgR R o) (e : R' o = R o) : lgR R' o := fun k hk => by rw [e]; exact h k hk
theorem tolR_cg {R R' : mR} {t : Nat} (h : tolR R t) (e : ∀ r, r < 38 → R' (t + r) = R (t + r)) : tolR R' t := by
  obtain ⟨a1, a2, a3, a4, a5, a6, a7, a8, a9, a10, a11, a12, a13, a14, a15, a16, a17⟩ := h
  have e0 : R' t = R t := e 0 (by decide)
  refine ⟨by rw [e0]; exact a1, by rw [e0]; exact a2, by rw [e0]; exact a3, by rw [e0]; exact a4, by rw [e0]; exact a5, by rw [e 3 (by decide)]; exact a6, by rw [e 3 (by decide)]; exact a7, by rw [e 22 (by decide)]; exact a8, by rw [e 22 (by decide)]; exact a9, by rw [e 31 (by decide)]; exact a10, by rw [e 31 (by decide)]; exact a11, offR_cg a12 (e 4 (by decide)), offR_cg a13 (e 13 (by decide)), wkR_cg a14 (e 23 (by decide)), wkR_cg a15 (e 27 (by decide)), lgR_cg a16 (e 32 (by decide)), lgR_cg a17 (e 35 (by decide))⟩
/-- the images, where neither they nor the reference's rows of theirs have changed -/
theorem IMk_cg {I I' : mI} {R R' : mR} {ni k : Nat} (h : IMk I R ni k) (h1 : R' 39 k = R 39 k) (h2 : I' 121 k = I 121 k) (h3 : ∀ a, 122 ≤ a → a < 122 + 38 * ni → R' a = R a) (h4 : ∀ i, i < ni → R 39 k = some (122 + 38 * i) → TD I (122 + 38 * i) (k + 1) → TD I' (122 + 38 * i) (k + 1)) : IMk I' R' ni k := by
  rcases h with ⟨a, b⟩ | ⟨i, a1, a2, a3, a4, a5⟩
  · exact Or.inl ⟨h1.trans a, h2.trans b⟩
  · exact Or.inr ⟨i, a1, h1.trans a2, h2.trans a3, tolR_cg a4 (fun r hr => h3 _ (by omega) (by omega)), h4 i a1 a2 a5⟩
theorem IMG_cg {I I' : mI} {R R' : mR} {n : Nat} (h : IMG I R n) (h1 : R' 39 = R 39) (h2 : I' 121 = I 121) (h3 : ∀ a, 122 ≤ a → a < n → R' a = R a) (h4 : ∀ i k, 122 + 38 * i + 38 ≤ n → k < 3 → TD I (122 + 38 * i) (k + 1) → TD I' (122 + 38 * i) (k + 1)) : IMG I' R' n := by
  obtain ⟨ni, a1, a2, a3, a4, a5⟩ := h
  refine ⟨ni, a1, a2, fun i hi => by rw [h1]; exact a3 i hi, by rw [h1]; exact a4, fun k hk => IMk_cg (a5 k hk) (by rw [h1]) (by rw [h2]) (fun a b c => h3 a b (by omega)) (fun i hi _ => h4 i k (by omega) hk)⟩
theorem INV_kp {I I' : mI} {R R' : mR} {n : Nat} (h : INV I R n) (h1 : KP I I') (h2 : KF R R') : INV I' R' n := by
  refine ⟨h2.1, fun j hj => (h1.2 j hj).trans (h.2.1 j hj), TD_rows h.2.2.1 (fun r hr => h1.1 _ (by omega)) (fun a b c => h1.1 a (by omega)), IMG_cg h.2.2.2 (h2.2 39 (by omega)) (h1.1 121 (by omega)) (fun a b _ => h2.2 a (by omega)) (fun i k _ _ q => TD_rows q (fun r hr => h1.1 _ (by omega)) (fun a b c => h1.1 a (by omega)))⟩
def retT (t : Option FieldType) (v : Value) : Prop := match t with
  | some .long => ∃ x, v = .long x
  | _ => ∃ x, v = .int x
theorem rt_i {a : Int32} : ∃ x, Value.int a = Value.int x := ⟨a, rfl⟩
theorem rt_l {a : Int64} : ∃ x, Value.long a = Value.long x := ⟨a, rfl⟩
/-- one call on both sides -/
def STEP (S : Nat × (Nat → Int32)) (YC YR : mY) (as : List Value) (I : mI) (J : mJ) (R : mR) (n : Nat) : Prop :=
  ∃ (v : Value) (n' : Nat), retT YC.2.2.2 v ∧ n ≤ n' ∧ n' ≤ 236 ∧ AW S 40 YC n n' (fun w I' J' R' => w = some v ∧ AW S 40 YR n' n' (fun w2 I2 _ R2 => w2 = some v ∧ INV I2 R2 n') 0 (lv_args 0 (.ref 95 :: as)) [] I' J' R' n') 0 (lv_args 0 (.ref 0 :: as)) [] I J R n
theorem st_q {S : Nat × (Nat → Int32)} {YC YR : mY} {as : List Value} {I : mI} {J : mJ} {R : mR} {n : Nat} {v : Value} (h : INV I R n) (hc : AW S 40 YC n n (qV I R v) 0 (lv_args 0 (.ref 0 :: as)) [] I J R n) (hm : ∀ K J' R', KP I K → m_fin R' → AW S 40 YR n n (qV K R' v) 0 (lv_args 0 (.ref 95 :: as)) [] K J' R' n) (hv : retT YC.2.2.2 v := by first | exact rt_i | exact rt_l) : STEP S YC YR as I J R n := by
  refine ⟨v, n, hv, Nat.le_refl _, h.n1.2, a_wk hc (fun w I' J' R' q => ⟨q.1, a_wk (hm I' J' R' q.2.1 q.2.2.1) (fun w2 I2 J2 R2 q2 => ⟨q2.1, INV_kp (INV_kp h q.2.1 q.2.2) q2.2.1 q2.2.2⟩)⟩)⟩
/-- a contract with its memory, as a query -/
theorem q_run {S : Nat × (Nat → Int32)} {d : Nat} {Y : mY} {as : List Value} {I I' : mI} {J : mJ} {R : mR} {n : Nat} {v : Value} (h : RUN S d Y as I J R n (some v) I' J R n) (hI : KP I I') (hR : m_fin R) : AW S d Y n n (qV I R v) 0 (lv_args 0 as) [] I J R n :=
  a_wk h (fun w I2 J2 R2 q => by obtain ⟨q1, q2, q3, q4⟩ := q; subst q1; subst q2; subst q4; exact ⟨rfl, hI, KF.refl hR⟩)
/-- an office that is told, or not -/
theorem of_in {x : Int32} {c : Nat} (hc : c ≤ 2) : f_of x (nI c) = f_in x 0 (nI c - 1) ∧ (f_of x (nI c) = 0 ∨ ∃ k, k < c ∧ x = nI k ∧ f_of x (nI c) = 1) := by
  unfold f_of f_in
  by_cases h0 : x < 0
  · rw [if_pos h0, if_pos h0]; exact ⟨rfl, Or.inl rfl⟩
  · rw [if_neg h0, if_neg h0]
    obtain ⟨w, hw, e⟩ := (nI_or x).resolve_left h0
    subst e
    have e1 : nI c ≤ nI w ↔ c ≤ w := by rw [Int32.le_iff_toInt_le, nI_toInt (show c < 2 ^ 31 by omega), nI_toInt hw]; omega
    have e2 : nI c - 1 < nI w ↔ c ≤ w := by
      rcases (show c = 0 ∨ c = 1 ∨ c = 2 by omega) with e | e | e <;> subst e
      · rw [show nI 0 - 1 = (-1 : Int32) from rfl, Int32.lt_iff_toInt_lt, nI_toInt hw, show (-1 : Int32).toInt = -1 from rfl]; omega
      · rw [show nI 1 - 1 = nI 0 from rfl, Int32.lt_iff_toInt_lt, nI_toInt hw, nI_toInt (show 0 < 2 ^ 31 by decide)]; omega
      · rw [show nI 2 - 1 = nI 1 from rfl, Int32.lt_iff_toInt_lt, nI_toInt hw, nI_toInt (show 1 < 2 ^ 31 by decide)]; omega
    by_cases h1 : c ≤ w
    · rw [if_pos (e1.mpr h1), if_pos (e2.mpr h1)]; exact ⟨rfl, Or.inl rfl⟩
    · rw [if_neg (fun q => h1 (e1.mp q)), if_neg (fun q => h1 (e2.mp q))]; exact ⟨rfl, Or.inr ⟨w, by omega, rfl, rfl⟩⟩
