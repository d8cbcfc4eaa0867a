/-- small numbers -/
def bnI (x : Int32) (B : Nat) : Prop := x.toInt.natAbs ≤ B
theorem bn_add {x y : Int32} {a b : Nat} (hx : bnI x a) (hy : bnI y b) (h : a + b < 2 ^ 31) : (x + y).toInt = x.toInt + y.toInt ∧ bnI (x + y) (a + b) := by
  unfold bnI at *
  have e : (x + y).toInt = x.toInt + y.toInt := by
    rw [Int32.toInt_add]
    exact Int.bmod_eq_of_le (by omega) (by omega)
  exact ⟨e, by rw [e]; omega⟩
theorem bn_mono {x : Int32} {a b : Nat} (h : bnI x a) (hab : a ≤ b) : bnI x b := Nat.le_trans h hab
theorem bn_nI {a B : Nat} (h : a ≤ B) (hB : B < 2 ^ 31) : bnI (nI a) B := by
  unfold bnI
  have : (nI a).toInt = (a : Int) := by
    show (Int32.ofNat a).toInt = _
    rw [Int32.toInt_ofNat_of_lt (by omega)]
  rw [this]; omega
theorem base_b : ∀ k, k < 4 → ∀ f, f ≤ 9 → (f_base (nI k) (nI f)).toInt.natAbs ≤ 9 := by decide +kernel
theorem baset_b : ∀ k, k < 4 → ∀ f, f ≤ 9 → ∀ t, t ≤ 9 → (f_base (nI k) (nI f) * nI t).toInt.natAbs ≤ 81 := by decide +kernel
theorem ds_b {K : mI} {ko nh nl nw l : Nat} {x : Int32} (H : OKo (oR K ko) nh nl nw) (hl : l < 10) (hx : kOK x) : bnI (dsA K ko l x) 81 := by
  obtain ⟨k, hk, ek⟩ := H.ki l hl
  obtain ⟨f, hf, ef, _⟩ := H.fo l hl
  have hb : bnI (bsR K ko l) 81 := by
    unfold bsR; rw [ek, ef]; exact bn_mono (base_b k hk f hf) (by decide)
  show bnI (dsy (bsR K ko) (fun l => oR K ko (19 + l)) (fun j => oR K ko (59 + j)) (-1) l x) 81
  unfold dsy
  rcases hx with hx | ⟨a, ha, hx⟩
  · rw [if_pos hx]; exact hb
  · subst hx
    obtain ⟨e1, e2⟩ := kd_ix ha hk
    have e3 : 4 * nI a + (fun l => oR K ko (19 + l)) l = nI (4 * a + k) := by
      show 4 * nI a + oR K ko (19 + l) = _
      rw [ek]; exact e1
    rw [e3, e2, if_neg (nI_m1 (by omega)), if_neg (nI_m1 (by omega))]
    rcases H.ti (4 * a + k) (by omega) with c | ⟨t, ht, c⟩
    · rw [if_pos (show (fun j => oR K ko (59 + j)) (4 * a + k) = -1 from c)]; exact hb
    · have c' : (fun j => oR K ko (59 + j)) (4 * a + k) = nI t := c
      rw [c', if_neg (nI_m1 (by omega))]
      unfold bsR; rw [ek, ef]; exact baset_b k hk f hf t ht
theorem bh_b {ds : Nat → Int32 → Int32} {kd : Nat → Int32} {m0 s : Int32} {nl : Nat} (hnl : nl ≤ 10) (hd : ∀ l, l < nl → ∀ x, kOK x → bnI (ds l x) 81) (hk : ∀ l, l < nl → kOK (kd l)) (hm : bnI m0 50) : ∀ k, k ≤ nl → bnI (bhN ds kd m0 s k).1 (50 + 81 * k) ∧ kOK (bhN ds kd m0 s k).2.1 := by
  intro k
  induction k with
  | zero => intro _; exact ⟨hm, Or.inl rfl⟩
  | succ k ih =>
    intro hk2
    obtain ⟨e, q⟩ := ih (by omega)
    have h1 : bhN ds kd m0 s (k + 1) = if f_has s (nI k) = 0 then bhN ds kd m0 s k else ((bhN ds kd m0 s k).1 + ds k (bhN ds kd m0 s k).2.1, kd k, f_le (bhN ds kd m0 s k).2.2 ((bhN ds kd m0 s k).1 + ds k (bhN ds kd m0 s k).2.1)) := rfl
    rw [h1]
    by_cases c : f_has s (nI k) = 0
    · rw [if_pos c]; exact ⟨bn_mono e (by omega), q⟩
    · rw [if_neg c]
      refine ⟨?_, hk k (by omega)⟩
      have := (bn_add e (hd k (by omega) _ q) (by omega)).2
      exact bn_mono this (by omega)
theorem smN_up {f g : Nat → Int32} {a : Nat} {x : Int32} : ∀ n, (∀ h, h < n → ¬ h = a → g h = f h) → (g a = f a + x) → smN g n = smN f n + (if a < n then x else 0) := by
  intro n
  induction n with
  | zero => intro _ _; rfl
  | succ n ih =>
    intro h1 h2
    show smN g n + g n = smN f n + f n + _
    rw [ih (fun h hh => h1 h (by omega)) h2]
    by_cases c : n = a
    · subst c
      rw [if_neg (by omega), if_pos (by omega), h2, Int32.add_zero, Int32.add_assoc]
    · rw [h1 n (by omega) c]
      by_cases c2 : a < n
      · rw [if_pos c2, if_pos (by omega), Int32.add_assoc, Int32.add_comm x, ← Int32.add_assoc]
      · rw [if_neg c2, if_neg (by omega), Int32.add_zero, Int32.add_zero]
/-- all houses at once, or house by house -/
theorem mb_sum {ds : Nat → Int32 → Int32} {kd hI : Nat → Int32} {b : Int32} {m : Nat → Int32} {nh nl : Nat} {s0 : Int32 × (Nat → Int32)} (hnh : nh ≤ 6) (hnl : nl ≤ 10) (hh : ∀ l, l < nl → ∃ a, a < nh ∧ hI l = nI a) (h0 : s0.1 = smN m nh) (hl0 : ∀ h, h < nh → s0.2 h = -1) : ∀ j, j ≤ nl → (mbN ds kd (hmN hI) b s0 j).1 = smN (fun h => (bhN ds kd (m h) (b &&& ltsN hI (nI h) nl) j).1) nh ∧ ∀ h, h < nh → (mbN ds kd (hmN hI) b s0 j).2 h = (bhN ds kd (m h) (b &&& ltsN hI (nI h) nl) j).2.1 := by
  intro j
  induction j with
  | zero => intro _; exact ⟨h0, fun h hh => hl0 h hh⟩
  | succ j ih =>
    intro hj
    obtain ⟨e1, e2⟩ := ih (by omega)
    obtain ⟨a, ha, ea⟩ := hh j (by omega)
    have hn : hmN hI j = a := by unfold hmN; rw [ea]; exact nI_clamp (by omega)
    have hbit : ∀ h, h < nh → (f_has (b &&& ltsN hI (nI h) nl) (nI j) = 0 ↔ (f_has b (nI j) = 0 ∨ ¬ h = a)) := fun h hh => by
      rw [hasz_bt _ (by omega), hasz_bt _ (by omega), b_and, lts_bt hI (nI h) (by omega) nl (by omega)]
      have : (j < nl ∧ hI j = nI h) ↔ h = a := by
        rw [ea, nI_eq (by omega) (by omega)]; omega
      by_cases c : h = a
      · rw [decide_eq_true (this.mpr c), Bool.and_true]
        exact ⟨fun q => Or.inl q, fun q => q.elim id (fun w => absurd c w)⟩
      · rw [decide_eq_false (fun w => c (this.mp w)), Bool.and_false]
        exact ⟨fun _ => Or.inr c, fun _ => rfl⟩
    have f1 : mbN ds kd (hmN hI) b s0 (j + 1) = if f_has b (nI j) = 0 then mbN ds kd (hmN hI) b s0 j else ((mbN ds kd (hmN hI) b s0 j).1 + ds j ((mbN ds kd (hmN hI) b s0 j).2 (hmN hI j)), va_up (mbN ds kd (hmN hI) b s0 j).2 (hmN hI j) (kd j)) := rfl
    have f2 : ∀ h, bhN ds kd (m h) (b &&& ltsN hI (nI h) nl) (j + 1) = if f_has (b &&& ltsN hI (nI h) nl) (nI j) = 0 then bhN ds kd (m h) (b &&& ltsN hI (nI h) nl) j else ((bhN ds kd (m h) (b &&& ltsN hI (nI h) nl) j).1 + ds j (bhN ds kd (m h) (b &&& ltsN hI (nI h) nl) j).2.1, kd j, f_le (bhN ds kd (m h) (b &&& ltsN hI (nI h) nl) j).2.2 ((bhN ds kd (m h) (b &&& ltsN hI (nI h) nl) j).1 + ds j (bhN ds kd (m h) (b &&& ltsN hI (nI h) nl) j).2.1)) := fun h => rfl
    rw [f1]
    by_cases c : f_has b (nI j) = 0
    · rw [if_pos c]
      have g : ∀ h, h < nh → bhN ds kd (m h) (b &&& ltsN hI (nI h) nl) (j + 1) = bhN ds kd (m h) (b &&& ltsN hI (nI h) nl) j := fun h hh => by rw [f2, if_pos ((hbit h hh).mpr (Or.inl c))]
      refine ⟨?_, fun h hh => by rw [g h hh]; exact e2 h hh⟩
      rw [e1]; exact smN_cg nh (fun h hh => by rw [g h hh])
    · rw [if_neg c, hn]
      have g1 : ∀ h, h < nh → ¬ h = a → bhN ds kd (m h) (b &&& ltsN hI (nI h) nl) (j + 1) = bhN ds kd (m h) (b &&& ltsN hI (nI h) nl) j := fun h hh q => by rw [f2, if_pos ((hbit h hh).mpr (Or.inr q))]
      have g2 : bhN ds kd (m a) (b &&& ltsN hI (nI a) nl) (j + 1) = ((bhN ds kd (m a) (b &&& ltsN hI (nI a) nl) j).1 + ds j (bhN ds kd (m a) (b &&& ltsN hI (nI a) nl) j).2.1, kd j, f_le (bhN ds kd (m a) (b &&& ltsN hI (nI a) nl) j).2.2 ((bhN ds kd (m a) (b &&& ltsN hI (nI a) nl) j).1 + ds j (bhN ds kd (m a) (b &&& ltsN hI (nI a) nl) j).2.1)) := by
        rw [f2, if_neg (fun q => by rcases (hbit a ha).mp q with w | w; exact c w; exact w rfl)]
      refine ⟨?_, fun h hh => ?_⟩
      · rw [e2 a ha, e1]
        refine (Eq.trans (smN_up (f := fun h => (bhN ds kd (m h) (b &&& ltsN hI (nI h) nl) j).1) (a := a) (x := ds j (bhN ds kd (m a) (b &&& ltsN hI (nI a) nl) j).2.1) nh (fun h hh q => by rw [g1 h hh q]) (by rw [g2])) ?_).symm
        rw [if_pos ha]
      · by_cases q : h = a
        · subst q; rw [g2]; exact va_up_self _ _ _
        · rw [g1 h hh q]; exact (va_up_ne _ _ q).trans (e2 h hh)
def smL (f : Nat → Int64) : Nat → Int64
  | 0 => 0
  | k + 1 => smL f k + f k
theorem sm_L {f : Nat → Int32} {B : Nat} (hB : B ≤ 10000) : ∀ n, n ≤ 6 → (∀ h, h < n → bnI (f h) B) → (smN f n).toInt64 = smL (fun h => (f h).toInt64) n ∧ bnI (smN f n) (B * n) := by
  intro n
  induction n with
  | zero =>
    intro _ _
    refine ⟨rfl, ?_⟩
    have e : (smN f 0).toInt.natAbs = 0 := by show (0 : Int32).toInt.natAbs = 0; decide
    unfold bnI; rw [e]; exact Nat.zero_le _
  | succ n ih =>
    intro hn h
    obtain ⟨e, q⟩ := ih (by omega) (fun k hk => h k (by omega))
    have hb : B * n ≤ 10000 * 6 := Nat.mul_le_mul hB (by omega)
    obtain ⟨a1, a2⟩ := bn_add q (h n (by omega)) (by omega)
    refine ⟨?_, by rw [Nat.mul_succ]; exact a2⟩
    show (smN f n + f n).toInt64 = smL (fun h => (f h).toInt64) n + (f n).toInt64
    rw [← e]
    apply Int64.toInt_inj.mp
    rw [Int32.toInt_toInt64, a1, Int64.toInt_add, Int32.toInt_toInt64, Int32.toInt_toInt64]
    unfold bnI at a2 q
    rw [a1] at a2
    exact (Int.bmod_eq_of_le (by omega) (by omega)).symm
theorem mbA_s {I : mI} {o : Nat} : ∀ k, mbA I o (nI 0) k = smN (I (o + 1)) k := by
  intro k
  induction k with
  | zero => rfl
  | succ k ih => show mbA I o (nI 0) k + I (o + 1) k = smN (I (o + 1)) k + I (o + 1) k; rw [ih]
theorem hoA_s {K : mI} {ko nl t : Nat} {s : Int64} {x : Int32} : ∀ k, (hoA K ko nl t (s, x) k).1 = s + smL (fun h => ((bhR K ko (oR K ko (3 + h)) (nI t &&& ltsN (K 106) (nI h) nl) nl).1).toInt64) k := by
  intro k
  induction k with
  | zero => exact (Int64.add_zero s).symm
  | succ k ih =>
    show (hoA K ko nl t (s, x) k).1 + ((bhR K ko (oR K ko (3 + k)) (nI t &&& ltsN (K 106) (nI k) nl) nl).1).toInt64 = s + (smL _ k + ((bhR K ko (oR K ko (3 + k)) (nI t &&& ltsN (K 106) (nI k) nl) nl).1).toInt64)
    rw [ih, Int64.add_assoc]
theorem RO.mb {I K : mI} {o ko nh nl nw k : Nat} {f : Nat → Int32} (H : RO I K o ko nh nl nw) : ((mbT I o nh nl (nI k) f).1).toInt64 = smL (fun h => ((bhR (hdI (cdI K) ko) ko (oR (hdI (cdI K) ko) ko (3 + h)) (nI k &&& ltsN ((hdI (cdI K) ko) 106) (nI h) nl) nl).1).toInt64) nh := by
  have h6 := H.2.nh6
  have h10 := H.2.l10
  have e := (mb_sum (ds := dsO I o) (kd := I (o + 3)) (hI := I (o + 2)) (b := nI k) (m := I (o + 1)) (nh := nh) (nl := nl) (s0 := (mbA I o (nI 0) nh, m_fill (fun _ => -1) f 6)) h6 h10 (fun l hl => by
    obtain ⟨a, ha, ea, q⟩ := H.2.ho l (by omega)
    exact ⟨a, q hl, (H.1.ho l hl).trans ea⟩) (mbA_s nh) (fun h hh => by show m_fill (fun _ => -1) f 6 h = -1; unfold m_fill; rw [if_pos (by omega)]) nl (Nat.le_refl _)).1
  have e2 : (mbT I o nh nl (nI k) f).1 = smN (fun h => (bhR (hdI (cdI K) ko) ko (oR (hdI (cdI K) ko) ko (3 + h)) (nI k &&& ltsN ((hdI (cdI K) ko) 106) (nI h) nl) nl).1) nh := by
    refine Eq.trans e (smN_cg nh (fun h hh => ?_))
    show (bhO I o h (nI k &&& ltsN (I (o + 2)) (nI h) nl) nl).1 = _
    rw [H.bh (by omega), H.lts]
  rw [e2]
  refine (sm_L (B := 50 + 81 * nl) (by omega) nh h6 (fun h hh => ?_)).1
  obtain ⟨m, hm, em⟩ := H.2.mo h (by omega)
  exact (bh_b h10 (fun l hl x hx => ds_b H.2 (by omega) hx) (fun l hl => H.kOK (by omega)) (by
    show bnI (oR K ko (3 + h)) 50
    rw [em]; exact bn_nI hm (by decide)) nl (Nat.le_refl _)).1
/-- hoped -/
theorem e_hopedN {I K : mI} {o ko nh nl nw q : Nat} {f : Nat → Int32} {x : Int32} (H : RO I K o ko nh nl nw) : ∀ k, (hcN I o nh nl q (0, 0, f) k).1 = (hoB (hdI (cdI K) ko) ko nh nl q (0, 0, x) k).1 := by
  intro k
  induction k with
  | zero => rfl
  | succ k ih =>
    show (hcNS I o nh nl q k (hcN I o nh nl q (0, 0, f) k)).1 = (hoBS (hdI (cdI K) ko) ko nh nl q k (hoB (hdI (cdI K) ko) ko nh nl q (0, 0, x) k)).1
    unfold hcNS hoBS
    by_cases c : onesN (nI k) 10 = q
    · rw [if_pos c, if_pos c]
      show (hcN I o nh nl q (0, 0, f) k).1 + _ = (hoA (hdI (cdI K) ko) ko nl k ((hoB (hdI (cdI K) ko) ko nh nl q (0, 0, x) k).1, (hoB (hdI (cdI K) ko) ko nh nl q (0, 0, x) k).2.2) nh).1
      rw [hoA_s, H.mb, ih]
    · rw [if_neg c, if_neg c]; exact ih
theorem e_hoped {I K : mI} {o ko nh nl nw q : Nat} {u : Int32} (H : RO I K o ko nh nl nw) : ptF (hoC I o nh nl q).1 (lN (cnN q (2 ^ nl))) u = hoR (hdI (cdI K) ko) ko nh nl q u := by
  unfold hoR
  rw [← e_hopedN (f := I 94) H (2 ^ nl)]
