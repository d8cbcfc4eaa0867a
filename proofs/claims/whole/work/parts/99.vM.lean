/-- the office to be tried: a copy -/
theorem tr_at {I : mI} {o i j : Nat} (h : cpH cplOffice i j = true) : (trI I o) (71 + i) j = I (o + i) j := cp_at h
theorem tr_cp {I : mI} {o : Nat} : (∀ h, h < 6 → (trI I o) 72 h = I (o + 1) h) ∧ (∀ l, l < 10 → (trI I o) 73 l = I (o + 2) l) ∧ (∀ l, l < 10 → (trI I o) 74 l = I (o + 3) l) ∧ (∀ l, l < 10 → (trI I o) 76 l = I (o + 5) l) ∧ (∀ j, j < 16 → (trI I o) 79 j = I (o + 8) j) :=
  ⟨fun h hh => cp_at (i := 1) ((by decide : ∀ j, j < 6 → cpH cplOffice 1 j = true) h hh), fun l hl => cp_at (i := 2) ((by decide : ∀ j, j < 10 → cpH cplOffice 2 j = true) l hl), fun l hl => cp_at (i := 3) ((by decide : ∀ j, j < 10 → cpH cplOffice 3 j = true) l hl), fun l hl => cp_at (i := 5) ((by decide : ∀ j, j < 10 → cpH cplOffice 5 j = true) l hl), fun j hj => cp_at (i := 8) ((by decide : ∀ j, j < 16 → cpH cplOffice 8 j = true) j hj)⟩
theorem dsC_cg {pl pl' kd kd' tm tm' : Nat → Int32} {l k : Nat} {x : Int32} (hp : pl l = pl' l) (h1 : kd l = nI k) (h2 : kd' l = nI k) (hk : k < 4) (ht : ∀ j, j < 16 → tm j = tm' j) (hx : kOK x) : dsC pl kd tm l x = dsC pl' kd' tm' l x := by
  unfold dsC
  rw [hp, h1, h2]
  rcases hx with hx | ⟨a, ha, hx⟩
  · rw [if_pos hx, if_pos hx]
  · obtain ⟨e1, e2⟩ := kd_ix ha hk
    subst hx
    rw [e1, e2, ht (4 * a + k) (by omega)]
/-- without a law -/
theorem ds_law {pl kd tm tm' : Nat → Int32} {l k law : Nat} {x : Int32} (h1 : kd l = nI k) (hk : k < 4) (hl : law < 16) (ht : ∀ j, j < 16 → tm' j = if j = law then -1 else tm j) (hx : kOK x) : dsy pl kd tm' (-1) l x = dsy pl kd tm (nI law) l x := by
  unfold dsy
  rw [h1]
  rcases hx with hx | ⟨a, ha, hx⟩
  · rw [if_pos hx, if_pos hx]
  · obtain ⟨e1, e2⟩ := kd_ix ha hk
    subst hx
    rw [e1, e2, if_neg (nI_m1 (show a < 2 ^ 31 by omega)), if_neg (nI_m1 (show a < 2 ^ 31 by omega)), if_neg (nI_m1 (show 4 * a + k < 2 ^ 31 by omega)), ht (4 * a + k) (by omega)]
    by_cases c : 4 * a + k = law
    · rw [if_pos c, if_pos rfl, if_pos (show nI (4 * a + k) = nI law by rw [c])]
    · rw [if_neg c, if_neg (fun q => c ((nI_eq (by omega) (by omega)).mp q))]
theorem tl_at {I : mI} {o k : Nat} : (∀ h, h < 6 → (tlI I o k) 72 h = I (o + 1) h) ∧ (∀ l, l < 10 → (tlI I o k) 73 l = I (o + 2) l) ∧ (∀ l, l < 10 → (tlI I o k) 74 l = I (o + 3) l) ∧ (∀ l, l < 10 → (tlI I o k) 76 l = I (o + 5) l) ∧ (∀ j, j < 16 → (tlI I o k) 79 j = if j = k then -1 else I (o + 8) j) := by
  obtain ⟨a, b, c, d, e⟩ := tr_cp (I := I) (o := o)
  refine ⟨fun h hh => (congrFun (m_up_ne (by decide)) h).trans (a h hh), fun l hl => (congrFun (m_up_ne (by decide)) l).trans (b l hl), fun l hl => (congrFun (m_up_ne (by decide)) l).trans (c l hl), fun l hl => (congrFun (m_up_ne (by decide)) l).trans (d l hl), fun j hj => ?_⟩
  by_cases q : j = k
  · subst q; rw [if_pos rfl]; exact m_up_at
  · rw [if_neg q]; exact (m_up_off q).trans (e j hj)
theorem ohL {I K : mI} {o ko nh nl nw k : Nat} (H : RO I K o ko nh nl nw) (hk : k < 16) : OH (tlI I o k) 71 (lwI (hdI (cdI K) ko) (nI k)) ko nl := by
  have h10 := H.2.l10
  obtain ⟨_, _, c, d, e⟩ := tl_at (I := I) (o := o) (k := k)
  refine ⟨h10, H.WFk, fun l hl => ?_⟩
  have hk1 : (tlI I o k) (71 + 3) l = nI (kdN K ko l) := (c l (by omega)).trans ((H.kd hl).trans (H.WFk l (by omega)).1)
  refine ⟨hk1, fun x hx => ?_⟩
  have hk4 := (H.WFk l (by omega)).2
  have e1 : dsO (tlI I o k) 71 l x = dsy (bsR K ko) (fun l => oR K ko (19 + l)) (fun j => if j = k then -1 else oR K ko (59 + j)) (-1) l x :=
    ds_eq ((d l (by omega)).trans (H.pl hl)) hk1 (H.WFk l (by omega)).1 hk4 (fun j hj => by
      show (tlI I o k) 79 j = _
      rw [e j hj]
      by_cases q : j = k
      · rw [if_pos q, if_pos q]
      · rw [if_neg q, if_neg q]; exact H.1.ti j hj) hx
  have e2 : dsO (tlI I o k) 71 l x = dsR (lwI (hdI (cdI K) ko) (nI k)) ko l x := by
    rw [e1]
    exact ds_law (tm := fun j => oR K ko (59 + j)) (H.WFk l (by omega)).1 hk4 hk (fun j _ => rfl) hx
  refine ⟨e2, ?_⟩
  rw [← e2, e1]
  obtain ⟨f, hf, ef, _⟩ := H.2.fo l (by omega)
  have hb : bnI (bsR K ko l) 81 := by
    unfold bsR; rw [(H.WFk l (by omega)).1, ef]; exact bn_mono (base_b _ hk4 f hf) (by decide)
  have hd := ds_b H.2 (l := l) (by omega) hx
  have hd : bnI (dsy (bsR K ko) (fun l => oR K ko (19 + l)) (fun j => oR K ko (59 + j)) (-1) l x) 81 := hd
  rw [ds_law (pl := bsR K ko) (kd := fun l => oR K ko (19 + l)) (tm := fun j => oR K ko (59 + j)) (tm' := fun j => if j = k then -1 else oR K ko (59 + j)) (H.WFk l (by omega)).1 hk4 hk (fun j _ => rfl) hx]
  unfold dsy at hd ⊢
  by_cases c1 : x = -1
  · rw [if_pos c1]; exact hb
  · rw [if_neg c1] at hd ⊢
    by_cases c2 : 4 * x + (fun l => oR K ko (19 + l)) l = nI k
    · rw [if_pos c2]; exact hb
    · rw [if_neg c2]
      by_cases c3 : 4 * x + (fun l => oR K ko (19 + l)) l = -1
      · rw [if_pos c3] at hd
        rcases hx with hx | ⟨a, ha, hx⟩
        · exact absurd hx c1
        · subst hx
          rw [show 4 * nI a + (fun l => oR K ko (19 + l)) l = nI (4 * a + kdN K ko l) by
            show 4 * nI a + oR K ko (19 + l) = _
            rw [(H.WFk l (by omega)).1]; exact (kd_ix ha hk4).1] at c3
          exact absurd c3 (nI_m1 (by omega))
      · rw [if_neg c3] at hd; exact hd
theorem RO.tgl {I K : mI} {o ko nh nl nw k : Nat} {w : r5} {B : Nat → Int32} (H : RO I K o ko nh nl nw) (hk : k < 16) (hw : ∀ j, j < 5 → w.2.2.2.2 j = 0) : (tgT (tlI I o k) 71 nh nl w).1 = (abT (lwI (hdI (cdI K) ko) (nI k)) ko nh nl B).1 ∧ ∀ j, j < 5 → (tgT (tlI I o k) 71 nh nl w).2.2.2.2.2 j = 0 := by
  have h10 := H.2.l10
  obtain ⟨a, b, _, _, _⟩ := tl_at (I := I) (o := o) (k := k)
  refine tg_eq (fun h w B0 hh hw => ?_) hw nh H.2.nh6
  exact mo_eq (u := nI 0) (X := lwI (hdI (cdI K) ko) (nI k)) (A := ltN ((hdI (cdI K) ko) 106) (nI h) nl) (ohL H hk) ((a h hh).trans (H.1.mo h hh)) (fun l => by
    rw [H.lt_bt l]
    constructor
    · rintro ⟨c1, c2, c3⟩; exact ⟨c1, (b l (by omega)).trans c2, c3⟩
    · rintro ⟨c1, c2, c3⟩; exact ⟨c1, (b l (by omega)).symm.trans c2, c3⟩) hw
theorem RO.tg {I K : mI} {o ko nh nl nw : Nat} {w : r5} {B : Nat → Int32} (H : RO I K o ko nh nl nw) (hw : ∀ j, j < 5 → w.2.2.2.2 j = 0) : (tgT I o nh nl w).1 = (abT (hdI (cdI K) ko) ko nh nl B).1 ∧ ∀ j, j < 5 → (tgT I o nh nl w).2.2.2.2.2 j = 0 :=
  tg_eq (fun h w B0 hh hw => H.mo (u := nI 0) hh hw) hw nh H.2.nh6
theorem tg_01 {I : mI} {o nl : Nat} {x : Int32} {w : r5} {i : Nat} (hi : i < 2) : ∀ k, (tgN I o nl (x, w) k).2.1 i = w.1 i := by
  intro k
  induction k with
  | zero => rfl
  | succ k ih =>
    show va_up (tgN I o nl (x, w) k).2.1 2 _ i = w.1 i
    rw [va_up_ne _ _ (by omega)]; exact ih
/-- strongest -/
theorem e_sgN {I K : mI} {o ko nh nl nw : Nat} {nx lf : Int32} {w : r5} {B : Nat → Int32} (H : RO I K o ko nh nl nw) (hw : ∀ j, j < 5 → w.2.2.2.2 j = 0) (h0 : w.1 0 = -1) (h1 : w.1 1 = -1) : ∀ k, k ≤ 16 → (sgC I o nh nl nx w k).1 0 = (sgN (hdI (cdI K) ko) ko nh nl nx (-1, -1, lf, B) k).1 ∧ (sgC I o nh nl nx w k).1 1 = (sgN (hdI (cdI K) ko) ko nh nl nx (-1, -1, lf, B) k).2.1 ∧ (∀ j, j < 5 → (sgC I o nh nl nx w k).2.2.2.2 j = 0) ∧ (-1) ≤ (sgC I o nh nl nx w k).1 1 := by
  intro k
  induction k with
  | zero => intro _; exact ⟨h0, h1, hw, by show (-1 : Int32) ≤ w.1 1; rw [h1]; exact Int32.le_refl _⟩
  | succ k ih =>
    intro hk
    obtain ⟨e0, e1, e2, e3⟩ := ih (by omega)
    have f1 : sgC I o nh nl nx w (k + 1) = sgCS I o nh nl nx k (sgC I o nh nl nx w k) := rfl
    have f2 : sgN (hdI (cdI K) ko) ko nh nl nx (-1, -1, lf, B) (k + 1) = sgNS (hdI (cdI K) ko) ko nh nl nx k (sgN (hdI (cdI K) ko) ko nh nl nx (-1, -1, lf, B) k) := rfl
    rw [f1, f2]
    generalize sgC I o nh nl nx w k = r at e0 e1 e2 e3
    generalize sgN (hdI (cdI K) ko) ko nh nl nx (-1, -1, lf, B) k = t at e0 e1
    unfold sgCS sgNS
    have et : I (o + 8) k = oR (hdI (cdI K) ko) ko (59 + k) := H.1.ti k (by omega)
    rw [et]
    by_cases c : oR (hdI (cdI K) ko) ko (59 + k) = -1
    · rw [if_pos c, if_pos c, ← e1, if_pos e3]
      refine ⟨e0, ?_, e2, e3⟩
      show r.1 1 = f_gr (r.1 1) (-1)
      unfold f_gr
      by_cases q : (-1 : Int32) < r.1 1
      · rw [if_pos q]
      · rw [if_neg q]; exact Int32.le_antisymm (Int32.not_lt.mp q) e3
    · rw [if_neg c, if_neg c]
      obtain ⟨g1, g2⟩ := H.tgl (k := k) (w := r) (B := t.2.2.2) (by omega) e2
      have g3 : (tgT (tlI I o k) 71 nh nl r).2.1 0 = r.1 0 := tg_01 (by decide) nh
      have g4 : (tgT (tlI I o k) 71 nh nl r).2.1 1 = r.1 1 := tg_01 (by decide) nh
      rw [g1, g4]
      generalize (abT (lwI (hdI (cdI K) ko) (nI k)) ko nh nl t.2.2.2).1 - nx = x
      have key : ∀ y : Int32, (if y ≤ r.1 1 then (tgT (tlI I o k) 71 nh nl r).2 else (va_up (va_up (tgT (tlI I o k) 71 nh nl r).2.1 0 (nI (100 + k)), (tgT (tlI I o k) 71 nh nl r).2.2).1 1 y, (va_up (tgT (tlI I o k) 71 nh nl r).2.1 0 (nI (100 + k)), (tgT (tlI I o k) 71 nh nl r).2.2).2)).1 0 = (if y ≤ t.2.1 then ((t.1, f_gr t.2.1 y, nI k, (abT (lwI (hdI (cdI K) ko) (nI k)) ko nh nl t.2.2.2).2) : Int32 × Int32 × Int32 × (Nat → Int32)) else (nI (100 + k), f_gr t.2.1 y, nI k, (abT (lwI (hdI (cdI K) ko) (nI k)) ko nh nl t.2.2.2).2)).1 ∧ (if y ≤ r.1 1 then (tgT (tlI I o k) 71 nh nl r).2 else (va_up (va_up (tgT (tlI I o k) 71 nh nl r).2.1 0 (nI (100 + k)), (tgT (tlI I o k) 71 nh nl r).2.2).1 1 y, (va_up (tgT (tlI I o k) 71 nh nl r).2.1 0 (nI (100 + k)), (tgT (tlI I o k) 71 nh nl r).2.2).2)).1 1 = (if y ≤ t.2.1 then ((t.1, f_gr t.2.1 y, nI k, (abT (lwI (hdI (cdI K) ko) (nI k)) ko nh nl t.2.2.2).2) : Int32 × Int32 × Int32 × (Nat → Int32)) else (nI (100 + k), f_gr t.2.1 y, nI k, (abT (lwI (hdI (cdI K) ko) (nI k)) ko nh nl t.2.2.2).2)).2.1 ∧ (∀ j, j < 5 → (if y ≤ r.1 1 then (tgT (tlI I o k) 71 nh nl r).2 else (va_up (va_up (tgT (tlI I o k) 71 nh nl r).2.1 0 (nI (100 + k)), (tgT (tlI I o k) 71 nh nl r).2.2).1 1 y, (va_up (tgT (tlI I o k) 71 nh nl r).2.1 0 (nI (100 + k)), (tgT (tlI I o k) 71 nh nl r).2.2).2)).2.2.2.2 j = 0) ∧ (-1) ≤ (if y ≤ r.1 1 then (tgT (tlI I o k) 71 nh nl r).2 else (va_up (va_up (tgT (tlI I o k) 71 nh nl r).2.1 0 (nI (100 + k)), (tgT (tlI I o k) 71 nh nl r).2.2).1 1 y, (va_up (tgT (tlI I o k) 71 nh nl r).2.1 0 (nI (100 + k)), (tgT (tlI I o k) 71 nh nl r).2.2).2)).1 1 := fun y => by
        rw [← e1]
        by_cases q : y ≤ r.1 1
        · rw [if_pos q, if_pos q]
          refine ⟨g3.trans e0, ?_, g2, by rw [g4]; exact e3⟩
          rw [g4]
          show r.1 1 = f_gr (r.1 1) y
          unfold f_gr
          by_cases z : y < r.1 1
          · rw [if_pos z]
          · rw [if_neg z]; exact Int32.le_antisymm (Int32.not_lt.mp z) q
        · rw [if_neg q, if_neg q]
          have z := Int32.not_le.mp q
          refine ⟨?_, ?_, g2, ?_⟩
          · show va_up (va_up (tgT (tlI I o k) 71 nh nl r).2.1 0 (nI (100 + k))) 1 y 0 = nI (100 + k)
            rw [va_up_ne _ _ (by decide), va_up_self]
          · show va_up (va_up (tgT (tlI I o k) 71 nh nl r).2.1 0 (nI (100 + k))) 1 y 1 = f_gr (r.1 1) y
            rw [va_up_self]; unfold f_gr; rw [if_neg (fun v => absurd (Int32.lt_trans z v) Int32.lt_irrefl)]
          · show (-1 : Int32) ≤ va_up (va_up (tgT (tlI I o k) 71 nh nl r).2.1 0 (nI (100 + k))) 1 y 1
            rw [va_up_self]; exact Int32.le_trans e3 (Int32.le_of_lt z)
      by_cases p : 0 ≤ x
      · rw [if_pos p, if_pos p]; exact key x
      · rw [if_neg p, if_neg p, show (0 : Int32) - x = -x from Int32.zero_sub x]; exact key (-x)
theorem e_strongest {I K : mI} {o ko nh nl nw : Nat} {u : Int32} (H : RO I K o ko nh nl nw) (h68 : ∀ j, j < 5 → I 68 j = 0) : (if u = 0 then (sgCT I o nh nl (w5 I)).1 0 else (sgCT I o nh nl (w5 I)).1 1) = (if u = 0 then (sgT (hdI (cdI K) ko) ko nh nl).1 else (sgT (hdI (cdI K) ko) ko nh nl).2.1) := by
  obtain ⟨a, b⟩ := H.tg (w := w5 I) (B := (hdI (cdI K) ko) 110) h68
  obtain ⟨c, d, _⟩ := e_sgN (nx := (tgT I o nh nl (w5 I)).1) (lf := (hdI (cdI K) ko) 95 30) (w := sgS0 I o nh nl (w5 I)) (B := (abT (hdI (cdI K) ko) ko nh nl ((hdI (cdI K) ko) 110)).2) H b rfl rfl 16 (Nat.le_refl _)
  rw [show (sgCT I o nh nl (w5 I)).1 0 = (sgN (hdI (cdI K) ko) ko nh nl (tgT I o nh nl (w5 I)).1 (-1, -1, (hdI (cdI K) ko) 95 30, (abT (hdI (cdI K) ko) ko nh nl ((hdI (cdI K) ko) 110)).2) 16).1 from c, show (sgCT I o nh nl (w5 I)).1 1 = (sgN (hdI (cdI K) ko) ko nh nl (tgT I o nh nl (w5 I)).1 (-1, -1, (hdI (cdI K) ko) 95 30, (abT (hdI (cdI K) ko) ko nh nl ((hdI (cdI K) ko) 110)).2) 16).2.1 from d, a]
