theorem e_strongest0 {I K : mI} {o ko nh nl nw : Nat} {u : Int32} (H : RO I K o ko nh nl nw) (h68 : ∀ j, j < 5 → I 68 j = 0) (hz : nw = 0) : (if u = 0 then (sgT (hdI (cdI K) ko) ko nh nl).1 else (sgT (hdI (cdI K) ko) ko nh nl).2.1) = -1 := by
  have ht := H.2.lw.mp hz
  have q : ∀ k, k ≤ 16 → sgC I o nh nl (tgT I o nh nl (w5 I)).1 (sgS0 I o nh nl (w5 I)) k = sgS0 I o nh nl (w5 I) := by
    intro k
    induction k with
    | zero => intro _; rfl
    | succ k ih =>
      intro hk
      show sgCS I o nh nl (tgT I o nh nl (w5 I)).1 k (sgC I o nh nl (tgT I o nh nl (w5 I)).1 (sgS0 I o nh nl (w5 I)) k) = _
      rw [ih (by omega)]
      unfold sgCS
      rw [if_pos ((H.1.ti k (by omega)).trans (ht k (by omega)))]
  rw [← e_strongest H h68]
  rw [show (sgCT I o nh nl (w5 I)) = sgS0 I o nh nl (w5 I) from q 16 (Nat.le_refl _)]
  by_cases c : u = 0
  · rw [if_pos c]; rfl
  · rw [if_neg c]; rfl
/-- swapped -/
theorem ts_at {I : mI} {o a b : Nat} (ha : a < 10) (hb : b < 10) : (∀ h, h < 6 → (tsI I o a b) 72 h = I (o + 1) h) ∧ (∀ l, l < 10 → (tsI I o a b) 73 l = if l = b then I (o + 2) a else if l = a then I (o + 2) b else I (o + 2) l) ∧ (∀ l, l < 10 → (tsI I o a b) 74 l = I (o + 3) l) ∧ (∀ l, l < 10 → (tsI I o a b) 76 l = I (o + 5) l) ∧ (∀ j, j < 16 → (tsI I o a b) 79 j = I (o + 8) j) := by
  obtain ⟨p1, p2, p3, p4, p5⟩ := tr_cp (I := I) (o := o)
  have ne : ∀ c j, c ≠ 73 → (tsI I o a b) c j = (trI I o) c j := fun c j hc => (congrFun (m_up_ne hc) j).trans (congrFun (m_up_ne hc) j)
  refine ⟨fun h hh => (ne 72 h (by decide)).trans (p1 h hh), fun l hl => ?_, fun l hl => (ne 74 l (by decide)).trans (p3 l hl), fun l hl => (ne 76 l (by decide)).trans (p4 l hl), fun j hj => (ne 79 j (by decide)).trans (p5 j hj)⟩
  by_cases q : l = b
  · subst q; rw [if_pos rfl]; exact m_up_at
  · rw [if_neg q]
    by_cases r : l = a
    · subst r; rw [if_pos rfl]; exact (m_up_off q).trans m_up_at
    · rw [if_neg r]; exact (m_up_off q).trans ((m_up_off r).trans (p2 l hl))
theorem ohS {I K : mI} {o ko nh nl nw a b : Nat} {f : Nat → Int32} (H : RO I K o ko nh nl nw) (ha : a < 10) (hb : b < 10) : OH (tsI I o a b) 71 (hmI (hdI (cdI K) ko) f) ko nl := by
  have h10 := H.2.l10
  obtain ⟨_, _, p3, p4, p5⟩ := ts_at (I := I) (o := o) ha hb
  refine ⟨h10, H.WFk, fun l hl => ?_⟩
  have hk1 : (tsI I o a b) (71 + 3) l = nI (kdN K ko l) := (p3 l (by omega)).trans ((H.kd hl).trans (H.WFk l (by omega)).1)
  exact ⟨hk1, fun x hx => ⟨ds_eq ((p4 l (by omega)).trans (H.pl hl)) hk1 (H.WFk l (by omega)).1 (H.WFk l (by omega)).2 (fun j hj => (p5 j hj).trans (H.1.ti j hj)) hx, ds_b H.2 (by omega) hx⟩⟩
theorem ch_at {f : Nat → Int32} {a b l : Nat} : chF f a b l = if l = b then f a else if l = a then f b else f l := rfl
theorem RO.tgs {I K : mI} {o ko nh nl nw a b : Nat} {w : r5} {B : Nat → Int32} (H : RO I K o ko nh nl nw) (ha : a < nl) (hb : b < nl) (hw : ∀ j, j < 5 → w.2.2.2.2 j = 0) : (tgT (tsI I o a b) 71 nh nl w).1 = (abT (hmI (hdI (cdI K) ko) (chF ((hdI (cdI K) ko) 106) a b)) ko nh nl B).1 ∧ ∀ j, j < 5 → (tgT (tsI I o a b) 71 nh nl w).2.2.2.2.2 j = 0 := by
  have h10 := H.2.l10
  obtain ⟨p1, p2, _⟩ := ts_at (I := I) (o := o) (a := a) (b := b) (by omega) (by omega)
  have hh : ∀ l, l < nl → (tsI I o a b) 73 l = chF ((hdI (cdI K) ko) 106) a b l := fun l hl => by
    rw [p2 l (by omega), ch_at, hm_hd (by omega), hm_hd (by omega), hm_hd (by omega), H.1.ho a ha, H.1.ho b hb, H.1.ho l hl]
  refine tg_eq (fun h w B0 h6 hw => ?_) hw nh H.2.nh6
  exact mo_eq (u := nI 0) (X := hmI (hdI (cdI K) ko) (chF ((hdI (cdI K) ko) 106) a b)) (A := ltN (chF ((hdI (cdI K) ko) 106) a b) (nI h) nl) (ohS H (by omega) (by omega)) ((p1 h h6).trans (H.1.mo h h6)) (fun l => by
    rw [ltN_bt h10]
    constructor
    · rintro ⟨c1, c2⟩; exact ⟨c1, (hh l c1).trans c2, nI_m1 (by omega)⟩
    · rintro ⟨c1, c2, _⟩; exact ⟨c1, (hh l c1).symm.trans c2⟩) hw
def swI (tot : Int32) (r : r5) (s : Int32 × Int32 × (Nat → Int32)) : Prop := r.1 0 = s.1 ∧ r.1 1 = s.2.1 ∧ (∀ j, j < 5 → r.2.2.2.2 j = 0) ∧ tot ≤ r.1 1
theorem sw_step {I K : mI} {o ko nh nl nw t k : Nat} {tot : Int32} {r : r5} {s : Int32 × Int32 × (Nat → Int32)} (H : RO I K o ko nh nl nw) (ht : ∀ B, (abT (hdI (cdI K) ko) ko nh nl B).1 = tot) (hk : t + 1 + k < nl) (h : swI tot r s) : swI tot (swCS I o nh nl t k r) (swAS (hdI (cdI K) ko) ko nh nl t k s) := by
  have h10 := H.2.l10
  obtain ⟨e0, e1, e2, e3⟩ := h
  unfold swCS swAS
  have et : I (o + 2) t = (hdI (cdI K) ko) 106 t := by rw [hm_hd (by omega)]; exact H.1.ho t (by omega)
  have ek : I (o + 2) (t + 1 + k) = (hdI (cdI K) ko) 106 (t + 1 + k) := by rw [hm_hd (by omega)]; exact H.1.ho _ hk
  by_cases c : I (o + 2) t = I (o + 2) (t + 1 + k)
  · rw [if_pos c]
    have ef : chF ((hdI (cdI K) ko) 106) t (t + 1 + k) = (hdI (cdI K) ko) 106 := by
      funext l
      rw [ch_at]
      by_cases q : l = t + 1 + k
      · rw [if_pos q, q, ← et, ← ek, c]
      · rw [if_neg q]
        by_cases q2 : l = t
        · rw [if_pos q2, q2, ← et, ← ek, c]
        · rw [if_neg q2]
    rw [ef, show hmI (hdI (cdI K) ko) ((hdI (cdI K) ko) 106) = hdI (cdI K) ko from m_row_self, ht, ← e1, if_pos e3]
    refine ⟨e0, ?_, e2, e3⟩
    show r.1 1 = f_gr (r.1 1) tot
    unfold f_gr
    by_cases z : tot < r.1 1
    · rw [if_pos z]
    · rw [if_neg z]; exact Int32.le_antisymm (Int32.not_lt.mp z) e3
  · rw [if_neg c]
    obtain ⟨g1, g2⟩ := H.tgs (a := t) (b := t + 1 + k) (w := r) (B := s.2.2) (by omega) hk e2
    have g3 : (tyV I o nh nl t (t + 1 + k) r).2.1 0 = r.1 0 := tg_01 (by decide) nh
    have g4 : (tyV I o nh nl t (t + 1 + k) r).2.1 1 = r.1 1 := tg_01 (by decide) nh
    have g1' : (tyV I o nh nl t (t + 1 + k) r).1 = (abT (hmI (hdI (cdI K) ko) (chF ((hdI (cdI K) ko) 106) t (t + 1 + k))) ko nh nl s.2.2).1 := g1
    unfold tyW
    rw [g1', g4, ← e1]
    by_cases q : (abT (hmI (hdI (cdI K) ko) (chF ((hdI (cdI K) ko) 106) t (t + 1 + k))) ko nh nl s.2.2).1 ≤ r.1 1
    · rw [if_pos q, if_pos q]
      refine ⟨g3.trans e0, ?_, g2, by rw [g4]; exact e3⟩
      rw [g4]
      show r.1 1 = f_gr (r.1 1) (abT (hmI (hdI (cdI K) ko) (chF ((hdI (cdI K) ko) 106) t (t + 1 + k))) ko nh nl s.2.2).1
      unfold f_gr
      by_cases z : (abT (hmI (hdI (cdI K) ko) (chF ((hdI (cdI K) ko) 106) t (t + 1 + k))) ko nh nl s.2.2).1 < r.1 1
      · rw [if_pos z]
      · rw [if_neg z]; exact Int32.le_antisymm (Int32.not_lt.mp z) q
    · rw [if_neg q, if_neg q]
      have z := Int32.not_le.mp q
      refine ⟨?_, ?_, g2, ?_⟩
      · show va_up (va_up (tyV I o nh nl t (t + 1 + k) r).2.1 0 (nI (10 * t + (t + 1 + k)))) 1 (abT (hmI (hdI (cdI K) ko) (chF ((hdI (cdI K) ko) 106) t (t + 1 + k))) ko nh nl s.2.2).1 0 = nI (10 * t + (t + 1 + k))
        rw [va_up_ne _ _ (by decide), va_up_self]
      · show va_up (va_up (tyV I o nh nl t (t + 1 + k) r).2.1 0 (nI (10 * t + (t + 1 + k)))) 1 (abT (hmI (hdI (cdI K) ko) (chF ((hdI (cdI K) ko) 106) t (t + 1 + k))) ko nh nl s.2.2).1 1 = f_gr (r.1 1) (abT (hmI (hdI (cdI K) ko) (chF ((hdI (cdI K) ko) 106) t (t + 1 + k))) ko nh nl s.2.2).1
        rw [va_up_self]; unfold f_gr; rw [if_neg (fun v => absurd (Int32.lt_trans z v) Int32.lt_irrefl)]
      · show tot ≤ va_up (va_up (tyV I o nh nl t (t + 1 + k) r).2.1 0 (nI (10 * t + (t + 1 + k)))) 1 (abT (hmI (hdI (cdI K) ko) (chF ((hdI (cdI K) ko) 106) t (t + 1 + k))) ko nh nl s.2.2).1 1
        rw [va_up_self]; exact Int32.le_trans e3 (Int32.le_of_lt z)
theorem sw_C {I K : mI} {o ko nh nl nw t : Nat} {tot : Int32} {r : r5} {s : Int32 × Int32 × (Nat → Int32)} (H : RO I K o ko nh nl nw) (ht : ∀ B, (abT (hdI (cdI K) ko) ko nh nl B).1 = tot) (h : swI tot r s) : ∀ k, t + 1 + k ≤ nl → swI tot (swC I o nh nl t r k) (swA (hdI (cdI K) ko) ko nh nl t s k) := by
  intro k
  induction k with
  | zero => intro _; exact h
  | succ k ih => intro hk; exact sw_step H ht (by omega) (ih (by omega))
theorem sw_D {I K : mI} {o ko nh nl nw : Nat} {tot : Int32} {r : r5} {s : Int32 × Int32 × (Nat → Int32)} (H : RO I K o ko nh nl nw) (ht : ∀ B, (abT (hdI (cdI K) ko) ko nh nl B).1 = tot) (h : swI tot r s) : ∀ k, k ≤ nl → swI tot (swD I o nh nl r k) (swB (hdI (cdI K) ko) ko nh nl s k) := by
  intro k
  induction k with
  | zero => intro _; exact h
  | succ k ih =>
    intro hk
    exact sw_C H ht (ih (by omega)) (nl - (k + 1)) (by omega)
theorem e_swapped {I K : mI} {o ko nh nl nw : Nat} {u : Int32} (H : RO I K o ko nh nl nw) (h68 : ∀ j, j < 5 → I 68 j = 0) : (if u = 0 then (swCT I o nh nl (w5 I)).1 0 else (swCT I o nh nl (w5 I)).1 1) = (if u = 0 then (swT (hdI (cdI K) ko) ko nh nl).1 else (swT (hdI (cdI K) ko) ko nh nl).2.1) := by
  have hw : ∀ j, j < 5 → ((va_up (w5 I).1 0 (-1), (w5 I).2) : r5).2.2.2.2 j = 0 := h68
  have ht : ∀ B, (abT (hdI (cdI K) ko) ko nh nl B).1 = (tgT I o nh nl (va_up (w5 I).1 0 (-1), (w5 I).2)).1 := fun B => (H.tg (B := B) hw).1.symm
  obtain ⟨_, b⟩ := H.tg (w := (va_up (w5 I).1 0 (-1), (w5 I).2)) (B := (hdI (cdI K) ko) 110) hw
  have z0 : (tgT I o nh nl (va_up (w5 I).1 0 (-1), (w5 I).2)).2.1 0 = -1 := (tg_01 (by decide) nh).trans (show va_up (w5 I).1 0 (-1) 0 = -1 from va_up_self _ _ _)
  obtain ⟨c, d, _⟩ := sw_D H ht (r := swS0 I o nh nl (w5 I)) (s := (-1, (abT (hdI (cdI K) ko) ko nh nl ((hdI (cdI K) ko) 110)).1, (abT (hdI (cdI K) ko) ko nh nl ((hdI (cdI K) ko) 110)).2)) ⟨by
    show va_up (tgT I o nh nl (va_up (w5 I).1 0 (-1), (w5 I).2)).2.1 1 (tgT I o nh nl (va_up (w5 I).1 0 (-1), (w5 I).2)).1 0 = -1
    rw [va_up_ne _ _ (by decide)]; exact z0, by
    show va_up (tgT I o nh nl (va_up (w5 I).1 0 (-1), (w5 I).2)).2.1 1 (tgT I o nh nl (va_up (w5 I).1 0 (-1), (w5 I).2)).1 1 = (abT (hdI (cdI K) ko) ko nh nl ((hdI (cdI K) ko) 110)).1
    rw [va_up_self]; exact (ht _).symm, b, by
    show (tgT I o nh nl (va_up (w5 I).1 0 (-1), (w5 I).2)).1 ≤ va_up (tgT I o nh nl (va_up (w5 I).1 0 (-1), (w5 I).2)).2.1 1 (tgT I o nh nl (va_up (w5 I).1 0 (-1), (w5 I).2)).1 1
    rw [va_up_self]; exact Int32.le_refl _⟩ nl (Nat.le_refl _)
  rw [show (swCT I o nh nl (w5 I)).1 0 = (swT (hdI (cdI K) ko) ko nh nl).1 from c, show (swCT I o nh nl (w5 I)).1 1 = (swT (hdI (cdI K) ko) ko nh nl).2.1 from d]
