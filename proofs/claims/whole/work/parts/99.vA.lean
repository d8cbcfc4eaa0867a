/-- an office of the class and one of the reference -/
def RO (I K : mI) (o ko nh nl nw : Nat) : Prop := OD I o (oR K ko) nl nw ∧ OKo (oR K ko) nh nl nw
theorem RO.nh {I K : mI} {o ko nh nl nw : Nat} (h : RO I K o ko nh nl nw) : I o 0 = nI nh := h.1.h0.trans h.2.d0
theorem RO.nl {I K : mI} {o ko nh nl nw : Nat} (h : RO I K o ko nh nl nw) : I o 1 = nI nl := h.1.a1
theorem RO.WFc {I K : mI} {o ko nh nl nw : Nat} (h : RO I K o ko nh nl nw) : WFc I o nl := fun l hl => by
  obtain ⟨k, hk, e⟩ := h.2.ki l (by have := h.2.l10; omega)
  exact ⟨k, hk, (h.1.ki l hl).trans e⟩
theorem RO.WFh {I K : mI} {o ko nh nl nw : Nat} (h : RO I K o ko nh nl nw) : WFh (I (o + 2)) nl := fun l hl => by
  obtain ⟨a, ha, e, _⟩ := h.2.ho l (by have := h.2.l10; omega)
  exact ⟨a, ha, (h.1.ho l hl).trans e⟩
theorem RO.WFk {I K : mI} {o ko nh nl nw : Nat} (h : RO I K o ko nh nl nw) : WFk K ko := fun l hl => by
  obtain ⟨k, hk, e⟩ := h.2.ki l hl
  have e2 : kdN K ko l = k := by unfold kdN; rw [e]; exact nI_clamp (by omega)
  rw [e2]; exact ⟨e, hk⟩
theorem RO.WFr {I K : mI} {o ko nh nl nw : Nat} (h : RO I K o ko nh nl nw) : _root_.Jvm.Pilot.CSortedOfficeLaw_law_r7817_abba98.WFh (fun l => oR K ko (9 + l)) nl := fun l hl => by
  obtain ⟨a, ha, e, _⟩ := h.2.ho l (by have := h.2.l10; omega)
  exact ⟨a, ha, e⟩
theorem plV_fb {k : Nat} {f : Int32} (h : k < 4) : plV k f = f_base (nI k) f := by
  rcases (show k = 0 ∨ k = 1 ∨ k = 2 ∨ k = 3 by omega) with e | e | e | e <;> subst e <;> rfl
theorem RO.pl {I K : mI} {o ko nh nl nw l : Nat} (h : RO I K o ko nh nl nw) (hl : l < nl) : I (o + 5) l = bsR K ko l := by
  obtain ⟨k, hk, e1, e2⟩ := h.1.pa l hl
  rw [e2, plV_fb hk, ← e1]; rfl
theorem RO.kd {I K : mI} {o ko nh nl nw l : Nat} (h : RO I K o ko nh nl nw) (hl : l < nl) : I (o + 3) l = oR K ko (19 + l) := h.1.ki l hl
theorem RO.kOK {I K : mI} {o ko nh nl nw l : Nat} (h : RO I K o ko nh nl nw) (hl : l < 10) : kOK (oR K ko (19 + l)) := by
  obtain ⟨k, hk, e⟩ := h.2.ki l hl
  exact Or.inr ⟨k, hk, e⟩
theorem kd_ix {a k : Nat} (ha : a < 4) (hk : k < 4) : (4 : Int32) * nI a + nI k = nI (4 * a + k) ∧ (nI (4 * a + k)).toNatClampNeg = 4 * a + k := by
  refine ⟨?_, nI_clamp (by omega)⟩
  have h1 : (4 : Int32) * nI a = nI (4 * a) := (Int32.ofNat_mul 4 a).symm
  rw [h1]; exact (Int32.ofNat_add (4 * a) k).symm
theorem ds_eq {pl pl' kd kd' tm tm' : Nat → Int32} {l k : Nat} {x : Int32} (hp : pl l = pl' l) (h1 : kd l = nI k) (h2 : kd' l = nI k) (hk : k < 4) (ht : ∀ j, j < 16 → tm j = tm' j) (hx : kOK x) : dsC pl kd tm l x = dsy pl' kd' tm' (-1) l x := by
  unfold dsC dsy
  rw [hp, h1, h2]
  rcases hx with hx | ⟨a, ha, hx⟩
  · rw [if_pos hx, if_pos hx]
  · obtain ⟨e1, e2⟩ := kd_ix ha hk
    subst hx
    rw [e1, e2, if_neg (nI_m1 (show a < 2 ^ 31 by omega)), if_neg (nI_m1 (show a < 2 ^ 31 by omega)), if_neg (nI_m1 (show 4 * a + k < 2 ^ 31 by omega)), ht (4 * a + k) (by omega)]
    by_cases c : tm' (4 * a + k) = -1
    · rw [if_pos c, if_pos c]
    · rw [if_neg c, if_neg c]; exact Int32.mul_comm _ _
theorem RO.ds {I K : mI} {o ko nh nl nw l : Nat} {x : Int32} (h : RO I K o ko nh nl nw) (hl : l < nl) (hx : _root_.Jvm.Pilot.CSortedOfficeLaw_law_r7817_abba98.kOK x) : dsO I o l x = dsA K ko l x := by
  obtain ⟨k, hk, e⟩ := h.2.ki l (by have := h.2.l10; omega)
  exact ds_eq (h.pl hl) ((h.kd hl).trans e) e hk (fun j hj => h.1.ti j hj) hx
theorem dsR_hdc {K : mI} {ko : Nat} : dsR (hdI (cdI K) ko) ko = dsA K ko := rfl
theorem oR_hd {K : mI} {ko : Nat} : oR (hdI (cdI K) ko) ko = oR K ko := rfl
theorem hm_hd {K : mI} {ko l : Nat} (hl : l < 10) : (hdI (cdI K) ko) 106 l = oR K ko (9 + l) := by
  show m_fill (fun l => oR (cdI K) ko (9 + l)) _ 10 l = _
  unfold m_fill; rw [if_pos hl]; rfl
theorem ltsN_cg {f g : Nat → Int32} {h : Int32} : ∀ k, (∀ l, l < k → f l = g l) → ltsN f h k = ltsN g h k := by
  intro k
  induction k with
  | zero => intro _; rfl
  | succ k ih =>
    intro e
    show ltsN f h k ||| (if f k = h then 1 <<< (nI k &&& 31) else 0) = ltsN g h k ||| (if g k = h then 1 <<< (nI k &&& 31) else 0)
    rw [ih (fun l hl => e l (by omega)), e k (by omega)]
theorem RO.lts {I K : mI} {o ko nh nl nw : Nat} (H : RO I K o ko nh nl nw) {h : Int32} : ltsN (I (o + 2)) h nl = ltsN ((hdI (cdI K) ko) 106) h nl :=
  ltsN_cg nl (fun l hl => by rw [hm_hd (by have := H.2.l10; omega)]; exact H.1.ho l hl)
theorem bhN_cg {ds ds' : Nat → Int32 → Int32} {kd kd' : Nat → Int32} {m0 s : Int32} {nl : Nat} (hd : ∀ l, l < nl → ∀ x, kOK x → ds l x = ds' l x) (hk : ∀ l, l < nl → kd l = kd' l ∧ kOK (kd l)) : ∀ k, k ≤ nl → bhN ds kd m0 s k = bhN ds' kd' m0 s k ∧ kOK (bhN ds kd m0 s k).2.1 := by
  intro k
  induction k with
  | zero => intro _; exact ⟨rfl, Or.inl rfl⟩
  | succ k ih =>
    intro hk2
    obtain ⟨e, q⟩ := ih (by omega)
    have h1 : bhN ds kd m0 s (k + 1) = if f_has s (nI k) = 0 then bhN ds kd m0 s k else ((bhN ds kd m0 s k).1 + ds k (bhN ds kd m0 s k).2.1, kd k, f_le (bhN ds kd m0 s k).2.2 ((bhN ds kd m0 s k).1 + ds k (bhN ds kd m0 s k).2.1)) := rfl
    have h2 : bhN ds' kd' m0 s (k + 1) = if f_has s (nI k) = 0 then bhN ds' kd' m0 s k else ((bhN ds' kd' m0 s k).1 + ds' k (bhN ds' kd' m0 s k).2.1, kd' k, f_le (bhN ds' kd' m0 s k).2.2 ((bhN ds' kd' m0 s k).1 + ds' k (bhN ds' kd' m0 s k).2.1)) := rfl
    rw [h1, h2, ← e, ← (hk k (by omega)).1, ← hd k (by omega) _ q]
    refine ⟨rfl, ?_⟩
    by_cases c : f_has s (nI k) = 0
    · rw [if_pos c]; exact q
    · rw [if_neg c]; exact (hk k (by omega)).2
theorem RO.bh {I K : mI} {o ko nh nl nw h : Nat} {s : Int32} (H : RO I K o ko nh nl nw) (hh : h < 6) : bhO I o h s nl = bhR (hdI (cdI K) ko) ko (oR (hdI (cdI K) ko) ko (3 + h)) s nl := by
  show bhN (dsO I o) (I (o + 3)) (I (o + 1) h) s nl = bhN (dsA K ko) (fun l => oR K ko (19 + l)) (oR K ko (3 + h)) s nl
  rw [H.1.mo h hh]
  exact (bhN_cg (fun l hl x hx => H.ds hl hx) (fun l hl => ⟨H.kd hl, by rw [H.kd hl]; exact H.kOK (by have := H.2.l10; omega)⟩) nl (Nat.le_refl _)).1
