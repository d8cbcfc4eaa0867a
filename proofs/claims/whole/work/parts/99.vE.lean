theorem xr_a : ∀ t s : Nat, s &&& t = s → s + (t ^^^ s) = t := by
  intro t
  induction t using Nat.strongRecOn with
  | _ t ih =>
  intro s h
  by_cases h0 : t = 0
  · subst h0
    rw [Nat.and_zero] at h; subst h; rfl
  · have h1 : (s / 2) &&& (t / 2) = s / 2 := by rw [← Nat.and_div_two, h]
    have e := ih (t / 2) (by omega) (s / 2) h1
    have x1 : (t ^^^ s) / 2 = t / 2 ^^^ s / 2 := Nat.xor_div_two
    have x2 : (t ^^^ s) % 2 = t % 2 ^^^ s % 2 := Nat.xor_mod_two_pow (n := 1)
    have x3 : s % 2 = s % 2 &&& t % 2 := by
      have := Nat.and_mod_two_pow (a := s) (b := t) (n := 1)
      rw [h] at this; exact this
    rcases Nat.mod_two_eq_zero_or_one t with a | a <;> rcases Nat.mod_two_eq_zero_or_one s with b | b <;> rw [a, b] at x2 x3
    · have x2 : (t ^^^ s) % 2 = 0 := x2
      omega
    · exact absurd x3 (by decide)
    · have x2 : (t ^^^ s) % 2 = 1 := x2
      omega
    · have x2 : (t ^^^ s) % 2 = 0 := x2
      omega
theorem xr_s {t s : Nat} (h : s &&& t = s) : (t ^^^ s) &&& t = t ^^^ s := by
  apply Nat.eq_of_testBit_eq
  intro i
  have hb : s.testBit i = (s.testBit i && t.testBit i) := by rw [← Nat.testBit_and, h]
  rw [Nat.testBit_and, Nat.testBit_xor]
  cases a : t.testBit i <;> cases b : s.testBit i <;> rw [a, b] at hb <;> first | rfl | exact absurd hb (by decide)
theorem xr_x {t s : Nat} : t ^^^ (t ^^^ s) = s := by
  rw [← Nat.xor_assoc, Nat.xor_self, Nat.zero_xor]
theorem on_x {t s : Nat} (h : s &&& t = s) : ∀ k, k ≤ 32 → onesN (nI s) k + onesN (nI (t ^^^ s)) k = onesN (nI t) k := by
  intro k
  induction k with
  | zero => intro _; rfl
  | succ k ih =>
    intro hk
    have q := ih (by omega)
    have hb : s.testBit k = (s.testBit k && t.testBit k) := by rw [← Nat.testBit_and, h]
    rw [onesN_s _ (by omega), onesN_s _ (by omega), onesN_s _ (by omega), bt_nI (by omega), bt_nI (by omega), bt_nI (by omega), Nat.testBit_xor]
    cases a : t.testBit k <;> cases b : s.testBit k <;> rw [a, b] at hb
    · simp; omega
    · exact absurd hb (by decide)
    · simp; omega
    · simp; omega
theorem sub_nI {s t : Nat} (hs : s < 2 ^ 32) : (nI s &&& (nI t ^^^ -1)) = 0 ↔ s &&& t = s := by
  rw [sub_bt]
  constructor
  · intro h
    apply Nat.eq_of_testBit_eq
    intro i
    rw [Nat.testBit_and]
    by_cases hi : i < 32
    · have q := h i hi
      rw [bt_nI hi, bt_nI hi] at q
      cases a : s.testBit i
      · rfl
      · rw [q a]; rfl
    · have : s.testBit i = false := Nat.testBit_lt_two_pow (Nat.lt_of_lt_of_le hs (Nat.pow_le_pow_right (by decide) (by omega)))
      rw [this]; rfl
  · intro h i hi e
    rw [bt_nI hi] at e ⊢
    have hb : s.testBit i = (s.testBit i && t.testBit i) := by rw [← Nat.testBit_and, h]
    rw [e] at hb
    cases a : t.testBit i
    · rw [a] at hb; exact absurd hb (by decide)
    · rfl
/-- sums -/
def smZ (g : Nat → Nat) : Nat → Nat
  | 0 => 0
  | k + 1 => smZ g k + g k
theorem smZ_cg {f g : Nat → Nat} : ∀ n, (∀ k, k < n → f k = g k) → smZ f n = smZ g n := by
  intro n
  induction n with
  | zero => intro _; rfl
  | succ n ih => intro h; show smZ f n + f n = smZ g n + g n; rw [ih (fun k hk => h k (by omega)), h n (by omega)]
theorem smZ_0 {f : Nat → Nat} {n : Nat} : ∀ m, (∀ k, n ≤ k → k < n + m → f k = 0) → smZ f (n + m) = smZ f n := by
  intro m
  induction m with
  | zero => intro _; rfl
  | succ m ih => intro h; show smZ f (n + m) + f (n + m) = smZ f n; rw [ih (fun k h1 h2 => h k h1 (by omega)), h (n + m) (by omega) (by omega)]; rfl
theorem smZ_f {f : Nat → Nat} : ∀ n, smZ f (n + 1) = f 0 + smZ (fun k => f (k + 1)) n := by
  intro n
  induction n with
  | zero => show 0 + f 0 = f 0 + 0; omega
  | succ n ih => show smZ f (n + 1) + f (n + 1) = f 0 + (smZ (fun k => f (k + 1)) n + f (n + 1)); rw [ih]; omega
theorem smZ_r {f : Nat → Nat} : ∀ n, smZ (fun k => f (n - k)) (n + 1) = smZ f (n + 1) := by
  intro n
  induction n with
  | zero => rfl
  | succ n ih =>
    rw [smZ_f]
    show f (n + 1 - 0) + smZ (fun k => f (n + 1 - (k + 1))) (n + 1) = smZ f (n + 1) + f (n + 1)
    rw [smZ_cg (n + 1) (g := fun k => f (n - k)) (fun k hk => by show f (n + 1 - (k + 1)) = f (n - k); congr 1; omega), ih, Nat.sub_zero]; omega
theorem pwN_l {x : Nat} : ∀ k, pwN (lN x) 1 k = lN (x ^ k) := by
  intro k
  induction k with
  | zero => rfl
  | succ k ih =>
    show pwN (lN x) 1 k * lN x = lN (x ^ (k + 1))
    rw [ih, Nat.pow_succ]; exact (Int64.ofNat_mul _ _).symm
theorem tL_nI : ∀ p, p ≤ 10 → (nI p).toInt64 = lN p ∧ 10 - (nI p).toInt64 = lN (10 - p) := by decide +kernel
/-- the ways in which just these are left -/
def spG (q : Nat → Bool) (p N t k : Nat) : Nat := if k &&& t = k ∧ q k = true then (10 - p) ^ onesN (nI k) 10 * p ^ (N - onesN (nI k) 10) else 0
theorem sp_R {K : mI} {ko nl h p N t : Nat} {mo x : Int32} (hp : p ≤ 10) : ∀ k, k ≤ 1024 → (spN K ko nl h p N (nI t) mo (0, x) k).1 = lN (smZ (spG (fun j => decide (¬ (bhR K ko (oR K ko (3 + h)) (nI j) nl).1 < mo)) p N t) k) := by
  intro k
  induction k with
  | zero => intro _; rfl
  | succ k ih =>
    intro hk
    have e := ih (by omega)
    show (spNS K ko nl h p N (nI t) mo k (spN K ko nl h p N (nI t) mo (0, x) k)).1 = lN (smZ (spG (fun j => decide (¬ (bhR K ko (oR K ko (3 + h)) (nI j) nl).1 < mo)) p N t) k + spG (fun j => decide (¬ (bhR K ko (oR K ko (3 + h)) (nI j) nl).1 < mo)) p N t k)
    generalize smZ (spG (fun j => decide (¬ (bhR K ko (oR K ko (3 + h)) (nI j) nl).1 < mo)) p N t) k = Z at e ⊢
    generalize spN K ko nl h p N (nI t) mo (0, x) k = r at e
    unfold spNS spG
    by_cases c : (nI k &&& (nI t ^^^ -1)) = 0
    · have c' : k &&& t = k := (sub_nI (by omega)).mp c
      rw [if_pos c]
      by_cases c2 : (bhR K ko (oR K ko (3 + h)) (nI k) nl).1 < mo
      · rw [if_pos c2, if_neg (fun q => absurd c2 (of_decide_eq_true q.2))]; exact e
      · rw [if_neg c2, if_pos ⟨c', decide_eq_true c2⟩, (tL_nI p hp).2, (tL_nI p hp).1, pwN_l, pwN_l]
        show r.1 + lN _ * lN _ = _
        rw [e, show lN ((10 - p) ^ onesN (nI k) 10) * lN (p ^ (N - onesN (nI k) 10)) = lN ((10 - p) ^ onesN (nI k) 10 * p ^ (N - onesN (nI k) 10)) from (Int64.ofNat_mul _ _).symm]
        exact (Int64.ofNat_add _ _).symm
    · rw [if_neg c, if_neg (fun q => c ((sub_nI (by omega)).mpr q.1))]; exact e
def scG (I : mI) (o nl h p N t : Nat) (mo : Int32) (k : Nat) : Nat := if k &&& t = k then (if (bhO I o h (nI (t ^^^ k)) nl).1 < mo then 0 else p ^ onesN (nI k) 10 * (10 - p) ^ (N - onesN (nI k) 10)) else 0
theorem sc_C {I : mI} {o nl h p N t : Nat} {mo : Int32} : ∀ k, k ≤ 1024 → scN I o nl h p N t mo 0 k = smZ (scG I o nl h p N t mo) k := by
  intro k
  induction k with
  | zero => intro _; rfl
  | succ k ih =>
    intro hk
    show scNS I o nl h p N t mo k (scN I o nl h p N t mo 0 k) = smZ (scG I o nl h p N t mo) k + scG I o nl h p N t mo k
    rw [ih (by omega)]
    generalize smZ (scG I o nl h p N t mo) k = Z
    unfold scNS scG
    by_cases c : (nI k &&& (nI t ^^^ -1)) = 0
    · have c' : k &&& t = k := (sub_nI (by omega)).mp c
      rw [if_pos c, if_pos c', mn_nI c']
      by_cases c2 : (bhO I o h (nI (t ^^^ k)) nl).1 < mo
      · rw [if_pos c2, if_pos c2]; rfl
      · rw [if_neg c2, if_neg c2]
    · rw [if_neg c, if_neg (fun q => c ((sub_nI (by omega)).mpr q))]; rfl
/-- spared -/
theorem e_spared {I K : mI} {o ko nh nl nw h p : Nat} {mo u : Int32} (H : RO I K o ko nh nl nw) (hh : h < nh) (hp : p ≤ 10) : ptF (lN (spC I o nl h p mo)) (lN (10 ^ onesN (nI (ltC I o h nl)) 10)) u = spR (hdI (cdI K) ko) ko nl h p mo u := by
  have h6 := H.2.nh6
  have h10 := H.2.l10
  have hp2 : 2 ^ nl ≤ 1024 := show 2 ^ nl ≤ 2 ^ 10 from Nat.pow_le_pow_right (by decide) h10
  have ht : ltC I o h nl < 2 ^ nl := uN32_lt (fun i hi => by
    by_cases h32 : i < 32
    · exact ls_big h10 i hi h32
    · exact b_big (by omega))
  unfold spR
  rw [← H.ls, show pwN 10 1 (onesN (nI (ltC I o h nl)) 10) = lN (10 ^ onesN (nI (ltC I o h nl)) 10) from pwN_l (x := 10) _, sp_R hp 1024 (Nat.le_refl _)]
  show ptF (lN (scN I o nl h p (onesN (nI (ltC I o h nl)) 10) (ltC I o h nl) mo 0 (2 ^ nl))) _ u = _
  rw [sc_C (2 ^ nl) hp2]
  generalize ltC I o h nl = t at ht
  generalize hN : onesN (nI t) 10 = N
  congr 2
  have hG : ∀ k, ¬ k ≤ t → spG (fun j => decide (¬ (bhR (hdI (cdI K) ko) ko (oR (hdI (cdI K) ko) ko (3 + h)) (nI j) nl).1 < mo)) p N t k = 0 := fun k hk => by
    unfold spG
    rw [if_neg (fun q => hk (by have := Nat.and_le_right (n := k) (m := t); rw [q.1] at this; exact this))]
  rw [show 2 ^ nl = (t + 1) + (2 ^ nl - (t + 1)) by omega, smZ_0 (2 ^ nl - (t + 1)) (fun k h1 h2 => by
    unfold scG; rw [if_neg (fun q => by have := Nat.and_le_right (n := k) (m := t); rw [q] at this; omega)])]
  rw [show 1024 = (t + 1) + (1024 - (t + 1)) by omega, smZ_0 (1024 - (t + 1)) (fun k h1 h2 => hG k (by omega)), ← smZ_r (f := spG (fun j => decide (¬ (bhR (hdI (cdI K) ko) ko (oR (hdI (cdI K) ko) ko (3 + h)) (nI j) nl).1 < mo)) p N t) t]
  refine smZ_cg (t + 1) (fun k hk => ?_)
  unfold scG spG
  by_cases c : k &&& t = k
  · have e1 : t - k = t ^^^ k := by have := xr_a t k c; omega
    have e2 := on_x c 10 (by decide)
    rw [hN] at e2
    rw [if_pos c, e1, H.bh (by omega)]
    by_cases c2 : (bhR (hdI (cdI K) ko) ko (oR (hdI (cdI K) ko) ko (3 + h)) (nI (t ^^^ k)) nl).1 < mo
    · rw [if_pos c2, if_neg (fun q => absurd c2 (of_decide_eq_true q.2))]
    · rw [if_neg c2, if_pos ⟨xr_s c, decide_eq_true c2⟩, show onesN (nI (t ^^^ k)) 10 = N - onesN (nI k) 10 by omega, show N - (N - onesN (nI k) 10) = onesN (nI k) 10 by omega, Nat.mul_comm]
  · rw [if_neg c, if_neg]
    intro q
    have e3 := xr_a t (t - k) q.1
    have e4 : t ^^^ (t - k) = k := by omega
    have e5 := xr_s q.1
    rw [e4] at e5
    exact c e5
