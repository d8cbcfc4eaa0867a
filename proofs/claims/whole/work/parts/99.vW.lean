def itf (f : Nat → Nat) : Nat → Nat → Nat
  | 0, l => l
  | u + 1, l => itf f u (f l)
def its (f s : Nat → Nat) : Nat → Nat → Nat
  | 0, _ => 0
  | u + 1, l => its f s u (f l) + s l
theorem itf_lt {f : Nat → Nat} {n : Nat} (hf : ∀ l, l < n → f l < n) : ∀ u l, l < n → itf f u l < n := by
  intro u
  induction u with
  | zero => intro l hl; exact hl
  | succ u ih => intro l hl; exact ih (f l) (hf l hl)
theorem itf_add {f : Nat → Nat} : ∀ a b l, itf f (a + b) l = itf f b (itf f a l) := by
  intro a
  induction a with
  | zero => intro b l; rw [Nat.zero_add]; rfl
  | succ a ih => intro b l; rw [show a + 1 + b = (a + b) + 1 by omega]; exact ih b (f l)
theorem itf_comm {f : Nat → Nat} {a b l : Nat} : itf f a (itf f b l) = itf f b (itf f a l) := by
  rw [← itf_add, ← itf_add, Nat.add_comm]
theorem itf_one {f : Nat → Nat} {u l : Nat} : itf f (u + 1) l = f (itf f u l) := itf_add u 1 l
def isV (n : Nat) (f s : Nat → Nat) (v : Nat → Nat → Nat) : Prop := (∀ t l, l < n → v (t + 1) l = (v t (f l) + s l) % 4) ∧ (∀ t l, l < n → v t l < 4) ∧ ∀ l, l < n → f l < n
theorem v_it {n : Nat} {f s : Nat → Nat} {v : Nat → Nat → Nat} (V : isV n f s v) : ∀ u t l, l < n → v (t + u) l = (v t (itf f u l) + its f s u l) % 4 := by
  intro u
  induction u with
  | zero => intro t l hl; show v t l = (v t l + 0) % 4; have := V.2.1 t l hl; omega
  | succ u ih =>
    intro t l hl
    have h1 := V.1 (t + u) l hl
    have h2 := ih t (f l) (V.2.2 l hl)
    show v (t + u + 1) l = (v t (itf f u (f l)) + (its f s u (f l) + s l)) % 4
    omega
theorem v_c {n : Nat} {f s : Nat → Nat} {v : Nat → Nat → Nat} (V : isV n f s v) {c l : Nat} (hl : l < n) (hc : itf f c l = l) : ∀ k t, v (t + c * k) l = (v t l + k * its f s c l) % 4 := by
  intro k
  induction k with
  | zero => intro t; rw [Nat.mul_zero, Nat.zero_mul]; have := V.2.1 t l hl; show v t l = _; omega
  | succ k ih =>
    intro t
    have h1 := v_it V c (t + c * k) l hl
    rw [hc] at h1
    have h2 := ih t
    have e1 : c * (k + 1) = c * k + c := Nat.mul_succ c k
    have e2 : (k + 1) * its f s c l = k * its f s c l + its f s c l := Nat.succ_mul k _
    rw [e1, e2, ← Nat.add_assoc, h1, h2]
    omega
theorem v_p {n : Nat} {f s : Nat → Nat} {v : Nat → Nat → Nat} (V : isV n f s v) {c l L : Nat} (hl : l < n) (hc : itf f c l = l) (hd : c ∣ L) {t : Nat} : v (t + 4 * L) l = v t l := by
  obtain ⟨q, e⟩ := hd
  have h := v_c V hl hc (4 * q) t
  rw [show c * (4 * q) = 4 * L by rw [e, Nat.mul_left_comm], Nat.mul_assoc] at h
  have := V.2.1 t l hl
  omega
theorem pig : ∀ n (g : Nat → Nat), (∀ i, i ≤ n → g i < n) → ∃ i j, i < j ∧ j ≤ n ∧ g i = g j := by
  intro n
  induction n with
  | zero => intro g h; exact absurd (h 0 (Nat.le_refl _)) (Nat.not_lt_zero _)
  | succ n ih =>
    intro g h
    by_cases c : ∃ i, i ≤ n ∧ g i = g (n + 1)
    · obtain ⟨i, h1, h2⟩ := c; exact ⟨i, n + 1, by omega, Nat.le_refl _, h2⟩
    · have hx := h (n + 1) (Nat.le_refl _)
      have c' : ∀ i, i ≤ n → ¬ g i = g (n + 1) := fun i hi e => c ⟨i, hi, e⟩
      obtain ⟨i, j, h1, h2, h3⟩ := ih (fun i => if g i = n then g (n + 1) else g i) (fun i hi => by
        have := h i (by omega)
        have := c' i hi
        split <;> omega)
      refine ⟨i, j, h1, by omega, ?_⟩
      have := c' i (by omega)
      have := c' j (by omega)
      split at h3 <;> split at h3 <;> omega
theorem lst_ex {P : Nat → Prop} : ∀ c, P c → ∃ m, m ≤ c ∧ P m ∧ ∀ j, j < m → ¬ P j := by
  intro c
  induction c using Nat.strongRecOn with
  | _ c ih =>
    intro h
    by_cases e : ∃ j, j < c ∧ P j
    · obtain ⟨j, h1, h2⟩ := e
      obtain ⟨m, q1, q2, q3⟩ := ih j h1 h2
      exact ⟨m, by omega, q2, q3⟩
    · exact ⟨c, Nat.le_refl _, h, fun j hj hp => e ⟨j, hj, hp⟩⟩
/-- the least way back -/
def wayB (f : Nat → Nat) (a c : Nat) : Prop := 0 < c ∧ itf f c a = a ∧ ∀ j, 0 < j → j < c → ¬ itf f j a = a
theorem way_ex {n : Nat} {f : Nat → Nat} (hf : ∀ l, l < n → f l < n) (hn : n ≤ 10) {l : Nat} (hl : l < n) : ∃ c, c ≤ n ∧ wayB f (itf f 10 l) c := by
  obtain ⟨i, j, h1, h2, h3⟩ := pig n (fun i => itf f i l) (fun i _ => itf_lt hf i l hl)
  have e1 : itf f (j - i) (itf f i l) = itf f i l := by rw [← itf_add, show i + (j - i) = j by omega, ← h3]
  have e2 : itf f (j - i) (itf f 10 l) = itf f 10 l := by
    rw [show 10 = i + (10 - i) by omega, itf_add, itf_comm, e1]
  obtain ⟨m, q1, q2, q3⟩ := lst_ex (P := fun c => 0 < c ∧ itf f c (itf f 10 l) = itf f 10 l) (j - i) ⟨by omega, e2⟩
  exact ⟨m, by omega, q2.1, q2.2, fun j hj h => fun e => q3 j h ⟨hj, e⟩⟩
theorem way_in {f : Nat → Nat} {a c i j : Nat} (h : wayB f a c) (hij : i < j) (hj : j < c) : ¬ itf f i a = itf f j a := by
  intro e
  have e1 : itf f (c - i) (itf f i a) = a := by rw [← itf_add, show i + (c - i) = c by omega]; exact h.2.1
  have e2 : itf f (c - i) (itf f j a) = itf f (j - i) a := by rw [← itf_add, show j + (c - i) = c + (j - i) by omega, itf_add, h.2.1]
  rw [e, e2] at e1
  exact h.2.2 (j - i) (by omega) (by omega) e1
theorem way_on {f : Nat → Nat} {a c m : Nat} (h : itf f c a = a) : itf f c (itf f m a) = itf f m a := by rw [itf_comm, h]
theorem way_sh {f : Nat → Nat} {a b ca cb i j : Nat} (ha : wayB f a ca) (hb : wayB f b cb) (hj : j ≤ cb) (e : itf f i a = itf f j b) : cb ≤ ca := by
  have e1 : itf f (cb - j) (itf f j b) = b := by rw [← itf_add, show j + (cb - j) = cb by omega]; exact hb.2.1
  have e2 : itf f ca b = b := by
    rw [← e1, ← e, show itf f (cb - j) (itf f i a) = itf f (i + (cb - j)) a from (itf_add _ _ _).symm]; exact way_on ha.2.1
  exact Nat.le_of_not_lt (fun h => hb.2.2 ca ha.1 h e2)
theorem way_two {n : Nat} {f : Nat → Nat} (hf : ∀ l, l < n → f l < n) {a b ca cb : Nat} (hla : a < n) (hlb : b < n) (ha : wayB f a ca) (hb : wayB f b cb) (hne : ¬ ca = cb) : ca + cb ≤ n := by
  apply Nat.le_of_not_lt
  intro hn
  obtain ⟨i, j, h1, h2, h3⟩ := pig n (fun i => if i < ca then itf f i a else itf f (i - ca) b) (fun i _ => by
    split
    · exact itf_lt hf _ _ hla
    · exact itf_lt hf _ _ hlb)
  by_cases c1 : j < ca
  · rw [if_pos c1, if_pos (by omega)] at h3; exact way_in ha h1 c1 h3
  · rw [if_neg c1] at h3
    by_cases c2 : i < ca
    · rw [if_pos c2] at h3
      have q1 := way_sh ha hb (show j - ca ≤ cb by omega) h3
      have q2 := way_sh hb ha (show i ≤ ca by omega) h3.symm
      omega
    · rw [if_neg c2] at h3; exact way_in hb (show i - ca < j - ca by omega) (by omega) h3
def lcF (x : Nat) : Nat := if x = 6 then 12 else if x = 7 then 42 else x
theorem lc_d0 : ∀ x y : Fin 11, (!(decide (6 ≤ x.1) && decide (1 ≤ y.1) && (decide (y.1 = x.1) || decide (x.1 + y.1 ≤ 10))) || decide (lcF x.1 % y.1 = 0)) = true := by decide
theorem lc_d {x y : Nat} (hx : x < 11) (hy : y < 11) (h6 : 6 ≤ x) (h1 : 1 ≤ y) (h : y = x ∨ x + y ≤ 10) : y ∣ lcF x := by
  have q := lc_d0 ⟨x, hx⟩ ⟨y, hy⟩
  simp [h6, h1] at q
  rcases q with q | q
  · exact absurd h (by omega)
  · exact Nat.dvd_of_mod_eq_zero q
theorem lc_60 : ∀ y, y < 6 → 1 ≤ y → y ∣ 60 := by decide
theorem lc_b : ∀ x, x < 11 → 6 ≤ x → 0 < lcF x ∧ lcF x ≤ 60 := by decide
/-- all ways back together: at most 240 steps -/
theorem way_all {n : Nat} {f : Nat → Nat} (hf : ∀ l, l < n → f l < n) (hn : n ≤ 10) : ∃ L, 0 < L ∧ L ≤ 60 ∧ ∀ l, l < n → ∃ c, c ∣ L ∧ wayB f (itf f 10 l) c := by
  by_cases h : ∃ l, l < n ∧ ∃ c, 6 ≤ c ∧ c ≤ 10 ∧ wayB f (itf f 10 l) c
  · obtain ⟨l, hl, c, h6, h10, hw⟩ := h
    refine ⟨lcF c, (lc_b c (by omega) h6).1, (lc_b c (by omega) h6).2, fun k hk => ?_⟩
    obtain ⟨d, hd, hw2⟩ := way_ex hf hn hk
    refine ⟨d, lc_d (by omega) (by omega) h6 hw2.1 ?_, hw2⟩
    by_cases e : d = c
    · exact Or.inl e
    · have := way_two hf (itf_lt hf 10 l hl) (itf_lt hf 10 k hk) hw hw2 (fun q => e q.symm)
      exact Or.inr (by omega)
  · refine ⟨60, by decide, by decide, fun k hk => ?_⟩
    obtain ⟨d, hd, hw2⟩ := way_ex hf hn hk
    refine ⟨d, lc_60 d (Nat.lt_of_not_le (fun q => h ⟨k, hk, d, q, by omega, hw2⟩)) hw2.1, hw2⟩
theorem v_per {n : Nat} {f s : Nat → Nat} {v : Nat → Nat → Nat} (V : isV n f s v) (hn : n ≤ 10) : ∃ M, 0 < M ∧ M ≤ 240 ∧ ∀ l, l < n → ∀ t, v (10 + t + M) l = v (10 + t) l := by
  obtain ⟨L, h1, h2, h3⟩ := way_all V.2.2 hn
  refine ⟨4 * L, by omega, by omega, fun l hl t => ?_⟩
  obtain ⟨c, q1, q2⟩ := h3 l hl
  have e1 := v_it V 10 (t + 4 * L) l hl
  have e2 := v_it V 10 t l hl
  rw [v_p V (itf_lt V.2.2 10 l hl) q2.2.1 q1] at e1
  rw [show 10 + t + 4 * L = t + 4 * L + 10 by omega, show 10 + t = t + 10 by omega, e1, e2]

/-- letters let loose -/
def fLo (f : Nat → Nat) (lo : Nat → Bool) (l : Nat) : Nat := if lo l = true then l else f l
def sLo (s : Nat → Nat) (lo : Nat → Bool) (l : Nat) : Nat := if lo l = true then 0 else s l
theorem lo_same {n : Nat} {f s : Nat → Nat} {v w : Nat → Nat → Nat} {lo : Nat → Bool} (V : isV n f s v) (W : isV n (fLo f lo) (sLo s lo) w) (h0 : ∀ l, l < n → w 0 l = v 0 l) {a : Nat} (ha : a < n) (h : ∀ i, lo (itf f i a) = false) : ∀ t i, w t (itf f i a) = v t (itf f i a) := by
  intro t
  induction t with
  | zero => intro i; exact h0 _ (itf_lt V.2.2 i a ha)
  | succ t ih =>
    intro i
    have hl := itf_lt V.2.2 i a ha
    rw [W.1 t _ hl, V.1 t _ hl]
    unfold fLo sLo
    rw [if_neg (by rw [h i]; decide), if_neg (by rw [h i]; decide), show f (itf f i a) = itf f (i + 1) a from itf_one.symm, ih (i + 1)]
def inG (n : Nat) (f : Nat → Nat) (v : Nat → Nat → Nat) (l : Nat) : Prop := l < n ∧ (∃ c, 0 < c ∧ c ≤ n ∧ itf f c l = l) ∧ (∀ i, l ≤ itf f i l) ∧ ∃ j, ¬ v (10 + j) l = v 10 l
theorem v_stay {n : Nat} {f s : Nat → Nat} {w : Nat → Nat → Nat} (W : isV n f s w) (h : ∀ l, l < n → w 21 l = w 20 l) : ∀ j l, l < n → w (20 + j) l = w 20 l := by
  intro j
  induction j with
  | zero => intro l _; rfl
  | succ j ih =>
    intro l hl
    have e1 := W.1 (20 + j) l hl
    have e2 := W.1 20 l hl
    rw [ih _ (W.2.2 l hl), ← e2, h l hl] at e1
    exact e1
theorem v_pk {n : Nat} {f s : Nat → Nat} {v : Nat → Nat → Nat} (V : isV n f s v) {c a k t : Nat} (ha : a < n) (hc : itf f c a = a) : v (t + 4 * (c * k)) a = v t a := v_p V ha hc (Nat.dvd_mul_right c k)
theorem lo_hit {n : Nat} {f s : Nat → Nat} {v w : Nat → Nat → Nat} {lo : Nat → Bool} (V : isV n f s v) (W : isV n (fLo f lo) (sLo s lo) w) (h0 : ∀ l, l < n → w 0 l = v 0 l) (hs : ∀ l, l < n → w 21 l = w 20 l) {g : Nat} (hg : inG n f v g) : ∃ i, lo (itf f i g) = true := by
  apply Classical.byContradiction
  intro hne
  have h : ∀ i, lo (itf f i g) = false := fun i => by
    cases e : lo (itf f i g) with
    | false => rfl
    | true => exact absurd ⟨i, e⟩ hne
  obtain ⟨hl, ⟨c, hc0, _, hc⟩, _, j, hj⟩ := hg
  have e : ∀ t, w t g = v t g := fun t => lo_same V W h0 hl h t 0
  have e2 : ∀ t, v (20 + t) g = v 20 g := fun t => by rw [← e, ← e]; exact v_stay W hs t g hl
  have h10 : 10 ≤ c * 10 := Nat.le_mul_of_pos_left 10 hc0
  have q : ∀ t, v (10 + t) g = v 20 g := fun t => by
    rw [← v_pk V (k := 10) (t := 10 + t) hl hc, show 10 + t + 4 * (c * 10) = 20 + (t + 4 * (c * 10) - 10) by omega]
    exact e2 _
  exact hj ((q j).trans (q 0).symm)
theorem itf_fix {f : Nat → Nat} {g : Nat} (h : f g = g) : ∀ k, itf f k g = g := by
  intro k
  induction k with
  | zero => rfl
  | succ k ih => rw [itf_one, ih, h]
theorem itf_mul {f : Nat → Nat} {c a : Nat} (h : itf f c a = a) : ∀ k, itf f (c * k) a = a := by
  intro k
  induction k with
  | zero => rfl
  | succ k ih => rw [Nat.mul_succ, itf_add, ih, h]
theorem itf_back {f : Nat → Nat} {c a i : Nat} (h0 : 0 < c) (h : itf f c a = a) : itf f (c * i - i) (itf f i a) = a := by
  have : i ≤ c * i := Nat.le_mul_of_pos_left i h0
  rw [← itf_add, show i + (c * i - i) = c * i by omega]; exact itf_mul h i
/-- the least of each ring that never settles, let loose: all settles -/
theorem lo_good {n : Nat} {f s : Nat → Nat} {v w : Nat → Nat → Nat} {lo : Nat → Bool} (hn : n ≤ 10) (V : isV n f s v) (W : isV n (fLo f lo) (sLo s lo) w) (h0 : ∀ l, l < n → w 0 l = v 0 l) (hG : ∀ l, l < n → (lo l = true ↔ inG n f v l)) : ∀ l, l < n → w 21 l = w 20 l := by
  intro l hl
  have ha := itf_lt W.2.2 10 l hl
  obtain ⟨c, hc, hw⟩ := way_ex W.2.2 hn hl
  have e1 := v_it W 10 10 l hl
  have e2 := v_it W 10 11 l hl
  suffices h : w 11 (itf (fLo f lo) 10 l) = w 10 (itf (fLo f lo) 10 l) by
    rw [h] at e2; exact e2.trans e1.symm
  generalize itf (fLo f lo) 10 l = a at ha hw
  by_cases hi : ∃ i, lo (itf (fLo f lo) i a) = true
  · obtain ⟨i, hi⟩ := hi
    have fx : fLo f lo (itf (fLo f lo) i a) = itf (fLo f lo) i a := if_pos hi
    have ea : itf (fLo f lo) i a = a := by
      have := itf_back (i := i) hw.1 hw.2.1
      rw [itf_fix fx] at this; exact this
    rw [ea] at hi
    have q := W.1 10 a ha
    rw [show fLo f lo a = a from if_pos hi, show sLo s lo a = 0 from if_pos hi] at q
    have q2 := W.2.1 10 a ha
    have q3 : w (10 + 1) a = w 10 a := by rw [q]; omega
    exact q3
  · have hn0 : ∀ i, lo (itf (fLo f lo) i a) = false := fun i => by
      cases e : lo (itf (fLo f lo) i a) with
      | false => rfl
      | true => exact absurd ⟨i, e⟩ hi
    have es : ∀ i, itf (fLo f lo) i a = itf f i a := by
      intro i
      induction i with
      | zero => rfl
      | succ i ih => rw [itf_one, itf_one, show fLo f lo (itf (fLo f lo) i a) = f (itf (fLo f lo) i a) from if_neg (by rw [hn0 i]; decide), ih]
    have hn1 : ∀ i, lo (itf f i a) = false := fun i => by rw [← es]; exact hn0 i
    have hc1 : itf f c a = a := by rw [← es]; exact hw.2.1
    have ev : ∀ t, w t a = v t a := fun t => lo_same V W h0 ha hn1 t 0
    rw [ev, ev]
    apply Classical.byContradiction
    intro hne
    obtain ⟨g, _, ⟨i, hi⟩, hmin⟩ := lst_ex (P := fun x => ∃ i, itf f i a = x) a ⟨0, rfl⟩
    have hgn : g < n := by rw [← hi]; exact itf_lt V.2.2 i a ha
    have hg : inG n f v g := by
      refine ⟨hgn, ⟨c, hw.1, hc, by rw [← hi]; exact way_on hc1⟩, fun j => Nat.le_of_not_lt (fun q => hmin _ q ⟨i + j, by rw [itf_add, hi]⟩), Classical.byContradiction (fun q => hne ?_)⟩
      have q1 : ∀ j, v (10 + j) g = v 10 g := fun j => Classical.byContradiction (fun x => q ⟨j, x⟩)
      have q2 : ∀ j, v (10 + j + i) a = (v 10 g + its f s i a) % 4 := fun j => by rw [v_it V i (10 + j) a ha, hi, q1 j]
      have hk : i ≤ c * i := Nat.le_mul_of_pos_left i hw.1
      rw [← v_pk V (k := i) (t := 11) ha hc1, ← v_pk V (k := i) (t := 10) ha hc1, show 11 + 4 * (c * i) = 10 + (1 + 4 * (c * i) - i) + i by omega, show 10 + 4 * (c * i) = 10 + (4 * (c * i) - i) + i by omega, q2, q2]
    have := (hG g hgn).mpr hg
    rw [← hi, hn1 i] at this
    exact absurd this (by decide)
/-- weights of sets -/
def wsm (w : Nat → Nat) (P : Nat → Bool) : Nat → Nat
  | 0 => 0
  | k + 1 => wsm w P k + if P k = true then w k else 0
theorem wsm_le {w : Nat → Nat} {P Q : Nat → Bool} : ∀ k, (∀ i, i < k → P i = true → Q i = true) → wsm w P k ≤ wsm w Q k := by
  intro k
  induction k with
  | zero => intro _; exact Nat.le_refl _
  | succ k ih =>
    intro h
    have := ih (fun i hi => h i (by omega))
    show wsm w P k + _ ≤ wsm w Q k + _
    by_cases c : P k = true
    · rw [if_pos c, if_pos (h k (by omega) c)]; omega
    · rw [if_neg c]; omega
theorem wsm_in {w : Nat → Nat} {P : Nat → Bool} {x : Nat} (hx : P x = false) : ∀ k, wsm w (fun i => P i || decide (i = x)) k = wsm w P k + if x < k then w x else 0 := by
  intro k
  induction k with
  | zero => rfl
  | succ k ih =>
    show wsm w (fun i => P i || decide (i = x)) k + (if (P k || decide (k = x)) = true then w k else 0) = wsm w P k + (if P k = true then w k else 0) + _
    rw [ih]
    by_cases e : k = x
    · subst e
      rw [hx, if_neg (Nat.lt_irrefl k), if_pos (Nat.lt_succ_self k), decide_eq_true rfl]
      simp
    · rw [decide_eq_false e, Bool.or_false]
      by_cases c : x < k
      · rw [if_pos c, if_pos (show x < k + 1 by omega)]; omega
      · rw [if_neg c, if_neg (show ¬ x < k + 1 by omega)]; omega
def wkk (G : Nat → Bool) (E : Nat → Nat) : Nat → Nat → Bool
  | 0 => fun _ => false
  | m + 1 => fun e => if G m = true then (wkk G E m e || decide (e = E m)) else wkk G E m e
theorem wkk_iff {G : Nat → Bool} {E : Nat → Nat} : ∀ m e, wkk G E m e = true ↔ ∃ g, g < m ∧ G g = true ∧ E g = e := by
  intro m
  induction m with
  | zero => intro e; exact ⟨fun h => absurd h Bool.false_ne_true, fun ⟨g, h, _⟩ => absurd h (Nat.not_lt_zero _)⟩
  | succ m ih =>
    intro e
    show (if G m = true then (wkk G E m e || decide (e = E m)) else wkk G E m e) = true ↔ _
    by_cases c : G m = true
    · rw [if_pos c, Bool.or_eq_true, ih, decide_eq_true_iff]
      constructor
      · rintro (⟨g, h1, h2⟩ | h)
        · exact ⟨g, by omega, h2⟩
        · exact ⟨m, by omega, c, h.symm⟩
      · rintro ⟨g, h1, h2, h3⟩
        by_cases q : g = m
        · exact Or.inr (by rw [← h3, q])
        · exact Or.inl ⟨g, by omega, h2, h3⟩
    · rw [if_neg c, ih]
      constructor
      · rintro ⟨g, h1, h2⟩; exact ⟨g, by omega, h2⟩
      · rintro ⟨g, h1, h2, h3⟩
        refine ⟨g, ?_, h2, h3⟩
        by_cases q : g = m
        · rw [q] at h2; exact absurd h2 c
        · omega
theorem wsm_G {w : Nat → Nat} {G : Nat → Bool} {E : Nat → Nat} {n : Nat} (hE : ∀ g, g < n → G g = true → E g < n ∧ w g ≤ w (E g)) (hi : ∀ g g', g < n → g' < n → G g = true → G g' = true → E g = E g' → g = g') : ∀ m, m ≤ n → wsm w G m ≤ wsm w (wkk G E m) n := by
  intro m
  induction m with
  | zero => intro _; exact Nat.zero_le _
  | succ m ih =>
    intro hm
    have h := ih (by omega)
    show wsm w G m + (if G m = true then w m else 0) ≤ wsm w (fun e => if G m = true then (wkk G E m e || decide (e = E m)) else wkk G E m e) n
    by_cases c : G m = true
    · rw [if_pos c]
      have e : (fun e => if G m = true then (wkk G E m e || decide (e = E m)) else wkk G E m e) = (fun e => wkk G E m e || decide (e = E m)) := by funext e; rw [if_pos c]
      have hf : wkk G E m (E m) = false := by
        cases q : wkk G E m (E m) with
        | false => rfl
        | true =>
          obtain ⟨g, h1, h2, h3⟩ := (wkk_iff m (E m)).mp q
          have := hi g m (by omega) (by omega) h2 c h3
          omega
      have q := hE m (by omega) c
      rw [e, wsm_in hf, if_pos q.1]
      omega
    · rw [if_neg c]
      have e : (fun e => if G m = true then (wkk G E m e || decide (e = E m)) else wkk G E m e) = wkk G E m := by funext e; rw [if_neg c]
      rw [e]; omega
/-- no set that settles weighs less -/
theorem lo_least {n : Nat} {f s : Nat → Nat} {v w : Nat → Nat → Nat} {lo G : Nat → Bool} {wt : Nat → Nat} (V : isV n f s v) (W : isV n (fLo f lo) (sLo s lo) w) (h0 : ∀ l, l < n → w 0 l = v 0 l) (hs : ∀ l, l < n → w 21 l = w 20 l) (hG : ∀ l, l < n → (G l = true ↔ inG n f v l)) (hw : ∀ a b, a ≤ b → wt a ≤ wt b) : wsm wt G n ≤ wsm wt lo n := by
  have hx : ∀ g, ∃ e, (g < n → G g = true → e < n ∧ lo e = true ∧ g ≤ e ∧ ∃ i, e = itf f i g) := fun g => by
    by_cases c : g < n ∧ G g = true
    · have hg := (hG g c.1).mp c.2
      obtain ⟨i, hi⟩ := lo_hit V W h0 hs hg
      exact ⟨itf f i g, fun _ _ => ⟨itf_lt V.2.2 i g c.1, hi, hg.2.2.1 i, i, rfl⟩⟩
    · exact ⟨0, fun h1 h2 => absurd ⟨h1, h2⟩ c⟩
  have hle : ∀ g g', g < n → g' < n → G g = true → G g' = true → Classical.choose (hx g) = Classical.choose (hx g') → g ≤ g' := by
    intro g g' h1 h2 h3 h4 e
    obtain ⟨_, _, _, i, e1⟩ := Classical.choose_spec (hx g) h1 h3
    obtain ⟨_, _, _, i', e2⟩ := Classical.choose_spec (hx g') h2 h4
    obtain ⟨_, ⟨c, hc0, _, hc⟩, _, _⟩ := (hG g' h2).mp h4
    have q := itf_back (i := i') hc0 hc
    rw [← e2, ← e, e1, ← itf_add] at q
    rw [← q]; exact ((hG g h1).mp h3).2.2.1 _
  have h := wsm_G (w := wt) (G := G) (E := fun g => Classical.choose (hx g)) (n := n) (fun g h1 h2 => by
    obtain ⟨q1, q2, q3, _⟩ := Classical.choose_spec (hx g) h1 h2
    exact ⟨q1, hw _ _ q3⟩) (fun g g' h1 h2 h3 h4 e => Nat.le_antisymm (hle g g' h1 h2 h3 h4 e) (hle g' g h2 h1 h4 h3 e.symm)) n (Nat.le_refl _)
  refine Nat.le_trans h (wsm_le n (fun i hi q => ?_))
  obtain ⟨g, h1, h2, h3⟩ := (wkk_iff n i).mp q
  rw [← h3]; exact (Classical.choose_spec (hx g) h1 h2).2.1
