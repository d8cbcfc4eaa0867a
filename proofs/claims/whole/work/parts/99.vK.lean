theorem RO.OH {I K : mI} {o ko nh nl nw : Nat} (H : RO I K o ko nh nl nw) : OH I o (hdI (cdI K) ko) ko nl := by
  have h10 := H.2.l10
  refine ⟨h10, H.WFk, fun l hl => ⟨?_, fun x hx => ⟨H.ds hl hx, ds_b H.2 (by omega) hx⟩⟩⟩
  rw [H.kd hl]; exact (H.WFk l (by omega)).1
theorem i32_ext {x y : Int32} (h : x.toInt = y.toInt) : x = y := Int32.toInt_inj.mp h
theorem all_bt {n i : Nat} : (2 ^ n - 1).testBit i = decide (i < n) := Nat.testBit_two_pow_sub_one n i
/-- the best (or worst) mood of a house, whichever letters it has -/
theorem mo_eq {I X : mI} {o ko nl A h : Nat} {wo u : Int32} {w : r5} {B0 : Nat → Int32} (H : OH I o X ko nl) (hm : I (o + 1) h = oR X ko (3 + h)) (hA : ∀ l, A.testBit l = true ↔ l < nl ∧ I (o + 2) l = nI h ∧ ¬ nI l = wo) (hw : ∀ j, j < 5 → w.2.2.2.2 j = 0) : moX I o nl h wo (sgU u) w = boR X ko nl h A u B0 ∧ ∀ j, j < 5 → (moR I o nl h wo (sgU u) w).2.2.2.2 j = 0 := by
  have h10 := H.1
  have hp : 2 ^ nl ≤ 2 ^ 10 := Nat.pow_le_pow_right (by decide) h10
  have hAn : A < 2 ^ nl := Nat.lt_pow_two_of_testBit _ (fun i hi => by
    cases c : A.testBit i
    · rfl
    · exact absurd ((hA i).mp c).1 (by omega))
  have G := gr_k (I := I) (o := o) (h := h) (wo := wo) (sg := sgU u) (g := w.2.1) (k0 := w.2.2.1) (dg := w.2.2.2.1) nl h10
  have hsz := G.sz
  have hp2 : 2 ^ (grT I o h nl wo (sgU u) w.2.1 w.2.2.1 w.2.2.2.1).1 ≤ 2 ^ 10 := Nat.pow_le_pow_right (by decide) (Nat.le_trans hsz h10)
  have hp3 : 0 < 2 ^ (grT I o h nl wo (sgU u) w.2.1 w.2.2.1 w.2.2.2.1).1 := Nat.pow_pos (by decide)
  have hrel : relT (grT I o h nl wo (sgU u) w.2.1 w.2.2.1 w.2.2.2.1) (2 ^ (grT I o h nl wo (sgU u) w.2.1 w.2.2.1 w.2.2.2.1).1 - 1) A := by
    refine ⟨by omega, by omega, fun l hl => ?_⟩
    rw [hA l]
    constructor
    · rintro ⟨a1, a2, a3⟩
      obtain ⟨i, b1, b2⟩ := G.su l a1 a2 a3
      exact ⟨i, b1, by rw [all_bt]; exact decide_eq_true b1, b2⟩
    · rintro ⟨i, b1, _, b3⟩
      obtain ⟨c1, _, c3, c4, _⟩ := G.el i b1
      rw [b3] at c1 c3 c4
      exact ⟨c1, c3, c4⟩
  have e := ord_eq (u := u) (B0 := B0) (ga := w.2.2.2.2) H hAn G hw _ A hrel (Nat.and_self A) 4 (by decide)
  have b := (bo_k (u := u) (B0 := B0) H hAn A (Nat.and_self A) 0 (by decide)).1
  have e : (mgT (grT I o h nl wo (sgU u) w.2.1 w.2.2.1 w.2.2.2.1) w.2.2.2.2 (5 * (2 ^ (grT I o h nl wo (sgU u) w.2.1 w.2.2.1 w.2.2.2.1).1 - 1) + 4)).toInt = sgZ u * (foN X ko nl (nI A) u B0 1024 (5 * A + 0)).toInt := e
  constructor
  · unfold moX boR
    rw [hm]
    congr 1
    have bM : bnI (mgT (grT I o h nl wo (sgU u) w.2.1 w.2.2.1 w.2.2.2.1) w.2.2.2.2 (5 * (2 ^ (grT I o h nl wo (sgU u) w.2.1 w.2.2.1 w.2.2.2.1).1 - 1) + 4)) (81 * A) := by
      unfold bnI at b ⊢
      rw [e]; unfold sgZ
      by_cases c : u = 0
      · rw [if_pos c]; omega
      · rw [if_neg c]; omega
    apply i32_ext
    rw [(sg_mul bM (by omega)).1, e, Nat.add_zero]
    unfold sgZ
    by_cases c : u = 0
    · rw [if_pos c]; omega
    · rw [if_neg c]; omega
  · intro j hj
    show mgN (grT I o h nl wo (sgU u) w.2.1 w.2.2.1 w.2.2.2.1).2.2.1 (grT I o h nl wo (sgU u) w.2.1 w.2.2.1 w.2.2.2.1).2.2.2 (grT I o h nl wo (sgU u) w.2.1 w.2.2.1 w.2.2.2.1).1 w.2.2.2.2 (2 ^ (grT I o h nl wo (sgU u) w.2.1 w.2.2.1 w.2.2.2.1).1 - 1) j = 0
    obtain ⟨hh10, hW, hd⟩ := H
    rw [(mgN_k (k0 := (grT I o h nl wo (sgU u) w.2.1 w.2.2.1 w.2.2.2.1).2.2.1) (dg := (grT I o h nl wo (sgU u) w.2.1 w.2.2.1 w.2.2.2.1).2.2.2) (s := w.2.2.2.2) (sz := (grT I o h nl wo (sgU u) w.2.1 w.2.2.1 w.2.2.2.1).1) (Nat.le_trans hsz h10) (fun i hi => by
      obtain ⟨a1, _, _, _, a5, _⟩ := G.el i hi
      show ((grT I o h nl wo (sgU u) w.2.1 w.2.2.1 w.2.2.2.1).2.2.1 i).toNatClampNeg < 5
      have k4 := (hW _ (Nat.lt_of_lt_of_le a1 h10)).2
      rw [a5, (hd _ a1).1, nI_clamp (by omega)]; omega) (2 ^ (grT I o h nl wo (sgU u) w.2.1 w.2.2.1 w.2.2.2.1).1 - 1) (by omega)).2 j hj]
    exact hw j hj
theorem ltN_bt {f : Nat → Int32} {h : Int32} {nl l : Nat} (hnl : nl ≤ 10) : (ltN f h nl).testBit l = true ↔ l < nl ∧ f l = h := by
  show bt (ltsN f h nl) l = true ↔ _
  by_cases hl : l < 32
  · rw [lts_bt f h hl nl (by omega), decide_eq_true_iff]
  · rw [b_big (by omega)]; constructor
    · intro q; exact absurd q (by decide)
    · intro q; omega
theorem RO.lt_bt {I K : mI} {o ko nh nl nw h : Nat} (H : RO I K o ko nh nl nw) : ∀ l, (ltN ((hdI (cdI K) ko) 106) (nI h) nl).testBit l = true ↔ l < nl ∧ I (o + 2) l = nI h ∧ ¬ nI l = -1 := fun l => by
  have h10 := H.2.l10
  rw [ltN_bt h10]
  constructor
  · rintro ⟨a, b⟩
    rw [hm_hd (by omega)] at b
    exact ⟨a, (H.1.ho l a).trans b, nI_m1 (by omega)⟩
  · rintro ⟨a, b, _⟩
    exact ⟨a, by rw [hm_hd (by omega)]; exact (H.1.ho l a).symm.trans b⟩
theorem RO.mo {I K : mI} {o ko nh nl nw h : Nat} {u : Int32} {w : r5} {B0 : Nat → Int32} (H : RO I K o ko nh nl nw) (hh : h < 6) (hw : ∀ j, j < 5 → w.2.2.2.2 j = 0) : moX I o nl h (-1) (sgU u) w = boR (hdI (cdI K) ko) ko nl h (ltN ((hdI (cdI K) ko) 106) (nI h) nl) u B0 ∧ ∀ j, j < 5 → (moR I o nl h (-1) (sgU u) w).2.2.2.2 j = 0 :=
  mo_eq H.OH (H.1.mo h hh) H.lt_bt hw
/-- order: the mood -/
theorem e_orderM {I K : mI} {o ko nh nl nw h : Nat} {u : Int32} (H : RO I K o ko nh nl nw) (hh : h < nh) (h68 : ∀ j, j < 5 → I 68 j = 0) : moX I o nl h (-1) (sgU u) (w5 I) = boR (hdI (cdI K) ko) ko nl h (ltN ((hdI (cdI K) ko) 106) (nI h) nl) u ((hdI (cdI K) ko) 110) := (H.mo (by have := H.2.nh6; omega) h68).1
theorem RO.ba {I K : mI} {o ko nh nl nw h : Nat} {w : r5} {B0 : Nat → Int32} (H : RO I K o ko nh nl nw) (hh : h < 6) (hw : ∀ j, j < 5 → w.2.2.2.2 j = 0) : moX I o nl h (-1) (sgU (nI 0)) w = baR (hdI (cdI K) ko) ko nl h B0 := (H.mo (u := nI 0) hh hw).1
/-- spoilt -/
theorem e_spoilt {I K : mI} {o ko nh nl nw h : Nat} {u : Int32} (H : RO I K o ko nh nl nw) (hh : h < nh) (h68 : ∀ j, j < 5 → I 68 j = 0) : (if u = 0 then (moX I o nl h (-1) (sgU (nI 0)) (w5 I)) - (bhO I o h (ltsN (I (o + 2)) (nI h) nl) nl).1 else (bhO I o h (ltsN (I (o + 2)) (nI h) nl) nl).2.2) = (if u = 0 then baR (hdI (cdI K) ko) ko nl h ((hdI (cdI K) ko) 110) - (bhR (hdI (cdI K) ko) ko (oR (hdI (cdI K) ko) ko (3 + h)) (ltsN ((hdI (cdI K) ko) 106) (nI h) nl) nl).1 else (bhR (hdI (cdI K) ko) ko (oR (hdI (cdI K) ko) ko (3 + h)) (ltsN ((hdI (cdI K) ko) 106) (nI h) nl) nl).2.2) := by
  have h6 := H.2.nh6
  rw [H.ba (w := w5 I) (B0 := (hdI (cdI K) ko) 110) (by omega) h68, H.bh (by omega), H.lts]
/-- the sum of all houses' bests -/
theorem tg_eq {I X : mI} {o ko nl : Nat} (hq : ∀ h w B0, h < 6 → (∀ j, j < 5 → (w : r5).2.2.2.2 j = 0) → moX I o nl h (-1) (sgU (nI 0)) w = baR X ko nl h B0 ∧ ∀ j, j < 5 → (moR I o nl h (-1) (sgU (nI 0)) w).2.2.2.2 j = 0) {w : r5} {B : Nat → Int32} (hw : ∀ j, j < 5 → w.2.2.2.2 j = 0) : ∀ k, k ≤ 6 → (tgN I o nl (nI 0, w) k).1 = (abN X ko nl (nI 0, B) k).1 ∧ ∀ j, j < 5 → (tgN I o nl (nI 0, w) k).2.2.2.2.2 j = 0 := by
  intro k
  induction k with
  | zero => intro _; exact ⟨rfl, hw⟩
  | succ k ih =>
    intro hk
    obtain ⟨e, q⟩ := ih (by omega)
    obtain ⟨a, b⟩ := hq k (tgN I o nl (nI 0, w) k).2 (abN X ko nl (nI 0, B) k).2 (by omega) q
    refine ⟨?_, b⟩
    show (tgN I o nl (nI 0, w) k).1 + moX I o nl k (-1) (sgU (nI 0)) (tgN I o nl (nI 0, w) k).2 = (abN X ko nl (nI 0, B) k).1 + baR X ko nl k (abN X ko nl (nI 0, B) k).2
    rw [e, a]
