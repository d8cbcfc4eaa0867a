/-- the lead of who takes first, of so many letters from one on -/
def ldL (b : Nat → Int32) : Nat → Nat → Int32
  | 0, _ => 0
  | t + 1, j => f_gr (b j - ldL b t (j + 1)) (b (j + t) - ldL b t j)
theorem gr_if {a b : Int32} : (if a < b then b else a) = f_gr a b := by
  unfold f_gr
  by_cases c : a < b
  · rw [if_pos c, if_neg (fun q => absurd (Int32.lt_trans c q) Int32.lt_irrefl)]
  · rw [if_neg c]
    by_cases d : b < a
    · rw [if_pos d]
    · rw [if_neg d]; exact Int32.le_antisymm (Int32.not_lt.mp d) (Int32.not_lt.mp c)
theorem RO.ldA {I K : mI} {o ko nh nl nw t : Nat} {s : Int32 × Int32 × (Nat → Int32)} (H : RO I K o ko nh nl nw) (ht : t < nl) (hs : 0 < t → ∀ j, j ≤ nl - t → s.2.2 j = ldL (bsR K ko) t j) : ∀ k, k ≤ nl - t → (∀ j, j < k → (ldA I o t s k).2.2 j = ldL (bsR K ko) (t + 1) j) ∧ (0 < t → ∀ j, k ≤ j → j ≤ nl - t → (ldA I o t s k).2.2 j = ldL (bsR K ko) t j) ∧ (0 < k → (ldA I o t s k).1 = bsR K ko (k - 1) - ldL (bsR K ko) t k ∧ (ldA I o t s k).2.1 = bsR K ko (k - 1 + t) - ldL (bsR K ko) t (k - 1)) := by
  intro k
  induction k with
  | zero => intro _; exact ⟨fun j hj => absurd hj (by omega), fun h0 j _ hj => hs h0 j hj, fun q => absurd q (by omega)⟩
  | succ k ih =>
    intro hk
    obtain ⟨h1, h2, _⟩ := ih (by omega)
    have e : _root_.Jvm.Pilot.CSortedOfficeLaw_law_r7817_abba98.ldA I o t s (k + 1) = ldAS I o t k (_root_.Jvm.Pilot.CSortedOfficeLaw_law_r7817_abba98.ldA I o t s k) := rfl
    rw [e]
    generalize _root_.Jvm.Pilot.CSortedOfficeLaw_law_r7817_abba98.ldA I o t s k = r at h1 h2
    have p1 : I (o + 5) k = bsR K ko k := H.pl (by omega)
    have p2 : I (o + 5) (k + (t + 1) - 1) = bsR K ko (k + t) := H.pl (l := k + t) (by omega)
    have key : ldAS I o t k r = (bsR K ko k - ldL (bsR K ko) t (k + 1), bsR K ko (k + t) - ldL (bsR K ko) t k, va_up r.2.2 k (ldL (bsR K ko) (t + 1) k)) := by
      unfold ldAS
      by_cases c : t + 1 = 1
      · obtain rfl : t = 0 := by omega
        rw [if_pos c, if_pos c, p1, p2, gr_if]; rfl
      · rw [if_neg c, if_neg c, p1, p2, h2 (by omega) k (Nat.le_refl _) (by omega), h2 (by omega) (k + 1) (by omega) (by omega), gr_if]; rfl
    rw [key]
    refine ⟨fun j hj => ?_, fun h0 j h3 h4 => ?_, fun _ => ⟨rfl, rfl⟩⟩
    · show va_up r.2.2 k _ j = _
      by_cases q : j = k
      · subst q; exact va_up_self _ _ _
      · rw [va_up_ne _ _ q]; exact h1 j (by omega)
    · show va_up r.2.2 k _ j = _
      rw [va_up_ne _ _ (by omega)]; exact h2 h0 j (by omega) h4
theorem RO.ldB {I K : mI} {o ko nh nl nw : Nat} {s : Int32 × Int32 × (Nat → Int32)} (H : RO I K o ko nh nl nw) : ∀ k, k ≤ nl → (0 < k → ∀ j, j ≤ nl - k → (ldB I o nl s k).2.2 j = ldL (bsR K ko) k j) ∧ (0 < k → k = nl → (ldB I o nl s k).1 = bsR K ko 0 - ldL (bsR K ko) (nl - 1) 1 ∧ (ldB I o nl s k).2.1 = bsR K ko (nl - 1) - ldL (bsR K ko) (nl - 1) 0) := by
  intro k
  induction k with
  | zero => intro _; exact ⟨fun q => absurd q (by omega), fun q => absurd q (by omega)⟩
  | succ k ih =>
    intro hk
    obtain ⟨h1, _⟩ := ih (by omega)
    have e : _root_.Jvm.Pilot.CSortedOfficeLaw_law_r7817_abba98.ldB I o nl s (k + 1) = _root_.Jvm.Pilot.CSortedOfficeLaw_law_r7817_abba98.ldA I o k (_root_.Jvm.Pilot.CSortedOfficeLaw_law_r7817_abba98.ldB I o nl s k) (nl - k) := rfl
    rw [e]
    obtain ⟨g1, g2, g3⟩ := H.ldA (t := k) (by omega) h1 (nl - k) (Nat.le_refl _)
    refine ⟨fun _ j hj => g1 j (by omega), fun _ hn => ?_⟩
    obtain ⟨g4, g5⟩ := g3 (by omega)
    have e1 : nl - k = 1 := by omega
    rw [e1] at g4 g5 ⊢
    have e2 : k = nl - 1 := by omega
    rw [show 1 - 1 + k = nl - 1 by omega] at g5
    rw [e2] at g4 g5 ⊢
    exact ⟨g4, g5⟩
theorem so_A {X : mI} {ko nl t : Nat} {s : Nat → Int32} (hnl : nl ≤ 10) (ht : t ≤ nl) (hs : ∀ j, 0 < t → j ≤ nl - (t - 1) → s (11 * (t - 1) + j) = ldL (bsR X ko) (t - 1) j) : ∀ k, k ≤ nl - t + 1 → (∀ j, j < k → soA X ko t s k (11 * t + j) = ldL (bsR X ko) t j) ∧ ∀ i, i < 11 * t → soA X ko t s k i = s i := by
  intro k
  induction k with
  | zero => intro _; exact ⟨fun j hj => absurd hj (by omega), fun i _ => rfl⟩
  | succ k ih =>
    intro hk
    obtain ⟨h1, h2⟩ := ih (by omega)
    have e : soA X ko t s (k + 1) = soAS X ko t k (soA X ko t s k) := rfl
    rw [e]
    generalize soA X ko t s k = r at h1 h2
    have key : soAS X ko t k r = va_up r (11 * t + k) (ldL (bsR X ko) t k) := by
      unfold soAS
      by_cases c : t = 0
      · subst c; rw [if_pos rfl]; rfl
      · rw [if_neg c]
        unfold lbR
        rw [if_neg (show ¬ (nI 1 : Int32) = 0 by decide), if_pos (show (nI 0 : Int32) = 0 from rfl), show 11 * (t - 1) + k + 1 = 11 * (t - 1) + (k + 1) by omega, h2 (11 * (t - 1) + (k + 1)) (by omega), h2 (11 * (t - 1) + k) (by omega), hs (k + 1) (by omega) (by omega), hs k (by omega) (by omega)]
        obtain ⟨m, rfl⟩ : ∃ m, t = m + 1 := ⟨t - 1, by omega⟩
        rw [show k + (m + 1) - 1 = k + m by omega, Nat.add_sub_cancel]; rfl
    rw [key]
    refine ⟨fun j hj => ?_, fun i hi => ?_⟩
    · by_cases q : j = k
      · subst q; exact va_up_self _ _ _
      · rw [va_up_ne _ _ (by omega)]; exact h1 j (by omega)
    · rw [va_up_ne _ _ (by omega)]; exact h2 i hi
theorem so_B {X : mI} {ko nl : Nat} {s : Nat → Int32} (hnl : nl ≤ 10) : ∀ k, k ≤ nl + 1 → ∀ t, t < k → ∀ j, j ≤ nl - t → soB X ko nl s k (11 * t + j) = ldL (bsR X ko) t j := by
  intro k
  induction k with
  | zero => intro _ t ht; exact absurd ht (by omega)
  | succ k ih =>
    intro hk t ht j hj
    have e : soB X ko nl s (k + 1) = soA X ko k (soB X ko nl s k) (nl - k + 1) := rfl
    rw [e]
    obtain ⟨g1, g2⟩ := so_A (X := X) (ko := ko) (t := k) (s := soB X ko nl s k) hnl (by omega) (fun j h0 hj => ih (by omega) (k - 1) (by omega) j hj) (nl - k + 1) (Nat.le_refl _)
    by_cases q : t = k
    · subst q; exact g1 j (by omega)
    · rw [g2 _ (by omega)]; exact ih (by omega) t (by omega) j hj
/-- sorters -/
theorem e_sorters {I K : mI} {o ko nh nl nw : Nat} {u : Int32} {f : Nat → Int32} (H : RO I K o ko nh nl nw) : ldR I o nl u f = soR (hdI (cdI K) ko) ko nl u := by
  have h10 := H.2.l10
  have hb : bsR (hdI (cdI K) ko) ko = bsR K ko := rfl
  have so := so_B (X := hdI (cdI K) ko) (ko := ko) (nl := nl) (s := (hdI (cdI K) ko) 116) h10 (nl + 1) (Nat.le_refl _)
  rw [hb] at so
  have s0 : soT (hdI (cdI K) ko) ko nl (11 * nl) = ldL (bsR K ko) nl 0 := so nl (by omega) 0 (by omega)
  obtain ⟨g1, g2⟩ := H.ldB (s := (I (o + 5) 0, I (o + 5) 0, m_fill (fun _ => nI 0) f 10)) nl (Nat.le_refl _)
  unfold ldR soR
  by_cases c0 : nl = 0
  · rw [if_pos c0, s0]
    by_cases hu : u = 0
    · rw [if_pos hu, if_pos hu, c0]; rfl
    · rw [if_neg hu, if_neg hu, if_pos c0]
  · rw [if_neg c0]
    by_cases hu : u = 0
    · rw [if_pos hu, if_pos hu, s0]
      exact g1 (by omega) 0 (by omega)
    · rw [if_neg hu, if_neg hu, if_neg c0]
      obtain ⟨a, b⟩ := g2 (by omega) rfl
      rw [a, b, s0]
      have e1 : lbR (hdI (cdI K) ko) ko (soT (hdI (cdI K) ko) ko nl) 0 nl (nI 1) = bsR K ko 0 - ldL (bsR K ko) (nl - 1) 1 := by
        unfold lbR
        rw [if_neg (show ¬ (nI 1 : Int32) = 0 by decide), show 11 * (nl - 1) + 0 + 1 = 11 * (nl - 1) + 1 by omega, show soT (hdI (cdI K) ko) ko nl (11 * (nl - 1) + 1) = ldL (bsR K ko) (nl - 1) 1 from so (nl - 1) (by omega) 1 (by omega), hb]
      rw [e1]
      obtain ⟨m, rfl⟩ : ∃ m, nl = m + 1 := ⟨nl - 1, by omega⟩
      rw [Nat.add_sub_cancel]
      show _ = if bsR K ko 0 - ldL (bsR K ko) m 1 = f_gr (bsR K ko 0 - ldL (bsR K ko) m (0 + 1)) (bsR K ko (0 + m) - ldL (bsR K ko) m 0) then 0 else 1
      rw [Nat.zero_add, Nat.zero_add]
      generalize bsR K ko 0 - ldL (bsR K ko) m 1 = x
      generalize bsR K ko m - ldL (bsR K ko) m 0 = y
      unfold f_gr
      by_cases q : x < y
      · rw [if_pos q, if_neg (fun z => absurd (Int32.lt_trans q z) Int32.lt_irrefl), if_neg (fun z => by rw [z] at q; exact absurd q Int32.lt_irrefl)]
      · rw [if_neg q]
        by_cases z : y < x
        · rw [if_pos z, if_pos rfl]
        · rw [if_neg z, if_pos (Int32.le_antisymm (Int32.not_lt.mp z) (Int32.not_lt.mp q))]
