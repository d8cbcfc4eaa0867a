/-- racks as digits -/
def pkN (x : Nat → Int32) : Nat → Int32
  | 0 => nI 0
  | k + 1 => pkN x k ||| (x k <<< (nI (2 * k) &&& 31))
def lo2 (x : Int32) : Prop := ∃ a, a < 4 ∧ x = nI a
theorem lo2.b {x : Int32} (h : lo2 x) {i : Nat} (hi : 2 ≤ i) : bt x i = false := by
  obtain ⟨a, ha, e⟩ := h; subst e; exact nI_big (m := 2) ha hi
theorem pk_bt {x : Nat → Int32} {j : Nat} (hj : j < 32) : ∀ m, m ≤ 10 → (∀ l, l < m → lo2 (x l)) → bt (pkN x m) j = (decide (j / 2 < m) && bt (x (j / 2)) (j % 2)) := by
  intro m
  induction m with
  | zero => intro _ _; rw [decide_eq_false (Nat.not_lt_zero _), Bool.false_and]; exact b_0 j
  | succ m ih =>
    intro hm hx
    show bt (pkN x m ||| (x m <<< (nI (2 * m) &&& 31))) j = _
    rw [b_or, ih (by omega) (fun l hl => hx l (by omega)), b_shl (2 * m) (by omega) _ hj]
    by_cases c : j / 2 < m
    · rw [decide_eq_true c, decide_eq_true (show j / 2 < m + 1 by omega), decide_eq_false (show ¬ 2 * m ≤ j by omega), Bool.false_and, Bool.or_false]
    · by_cases d : j / 2 = m
      · rw [decide_eq_false c, decide_eq_true (show j / 2 < m + 1 by omega), decide_eq_true (show 2 * m ≤ j by omega), Bool.false_and, Bool.false_or, Bool.true_and, Bool.true_and, d, show j - 2 * m = j % 2 by omega]
      · rw [decide_eq_false c, decide_eq_false (show ¬ j / 2 < m + 1 by omega), Bool.false_and, Bool.false_or, (hx m (by omega)).b (show 2 ≤ j - 2 * m by omega), Bool.and_false]
theorem t3 : ∀ i, i < 32 → bt (nI 3) i = decide (i < 2) := by decide +kernel
theorem rk_bt {r : Int32} {l i : Nat} (hl : l < 10) (hi : i < 32) : bt (rkO r (nI l)) i = (decide (i < 2) && bt r (2 * l + i)) := by
  unfold rkO
  rw [n2k, b_and, t3 i hi, b_sshr (2 * l) (by omega) _ hi]
  by_cases c : i < 2
  · rw [decide_eq_true c, if_pos (by omega), Bool.and_true, Bool.true_and]
  · rw [decide_eq_false c, Bool.and_false, Bool.false_and]
theorem rk_pk {x : Nat → Int32} {m l : Nat} (hm : m ≤ 10) (hx : ∀ l, l < m → lo2 (x l)) (hl : l < m) : rkO (pkN x m) (nI l) = x l := by
  refine b_ext (fun i hi => ?_)
  rw [rk_bt (by omega) hi]
  by_cases c : i < 2
  · rw [decide_eq_true c, Bool.true_and, pk_bt (by omega) m hm hx, show (2 * l + i) / 2 = l by omega, show (2 * l + i) % 2 = i by omega, decide_eq_true hl, Bool.true_and]
  · rw [decide_eq_false c, Bool.false_and, (hx l hl).b (by omega)]
def dgN (r : Int32) (l : Nat) : Nat := uN32 (rkO r (nI l))
theorem rk_n {r : Int32} {l : Nat} : rkO r (nI l) = nI (dgN r l) := uN32_nI _
theorem dg_lt {r : Int32} {l : Nat} (hl : l < 10) : dgN r l < 4 := uN32_lt (m := 2) (fun i hi => by
  by_cases h : i < 32
  · rw [rk_bt hl h, decide_eq_false (show ¬ i < 2 by omega), Bool.false_and]
  · exact b_big (by omega))
theorem rk_lo2 {r : Int32} {l : Nat} (hl : l < 10) : lo2 (rkO r (nI l)) := ⟨dgN r l, dg_lt hl, rk_n⟩
theorem uN_nI {a : Nat} (h : a < 2 ^ 32) : uN32 (nI a) = a := by
  show (BitVec.ofNat 32 a).toNat = a
  rw [BitVec.toNat_ofNat]; exact Nat.mod_eq_of_lt h
theorem pk_cg {x y : Nat → Int32} : ∀ m, (∀ l, l < m → x l = y l) → pkN x m = pkN y m := by
  intro m
  induction m with
  | zero => intro _; rfl
  | succ m ih =>
    intro h
    show pkN x m ||| (x m <<< (nI (2 * m) &&& 31)) = pkN y m ||| (y m <<< (nI (2 * m) &&& 31))
    rw [ih (fun l hl => h l (by omega)), h m (by omega)]
/-- who minds whom, how far -/
def mdF (D : Nat → Int32) (l : Nat) : Nat := if D (39 + l) = -1 then l else (D (39 + l)).toNatClampNeg
def mdS (D : Nat → Int32) (l : Nat) : Nat := if D (39 + l) = -1 then 0 else (D (49 + l)).toNatClampNeg
def nxD (X : mI) (ko : Nat) (r lo : Int32) (k : Nat) : Int32 := if f_has lo (nI k) = 0 then (if oR X ko (39 + k) = -1 then rkO r (nI k) else ((rkO r (oR X ko (39 + k))) + (oR X ko (49 + k))) &&& nI 3) else rkO r (nI k)
theorem ro_pk {X : mI} {ko : Nat} {r lo : Int32} : ∀ k, roN X ko r lo (nI 0) k = pkN (nxD X ko r lo) k := by
  intro k
  induction k with
  | zero => rfl
  | succ k ih =>
    show roNS X ko r lo k (roN X ko r lo (nI 0) k) = pkN (nxD X ko r lo) k ||| (nxD X ko r lo k <<< (nI (2 * k) &&& 31))
    rw [ih]
    unfold roNS nxD
    by_cases c : f_has lo (nI k) = 0
    · rw [if_pos c, if_pos c]
      by_cases d : oR X ko (39 + k) = -1
      · rw [if_pos d, if_pos d]
      · rw [if_neg d, if_neg d]
    · rw [if_neg c, if_neg c]
theorem ra_pk {X : mI} {ko : Nat} : ∀ k, rsA X ko (nI 0) k = pkN (fun k => oR X ko (19 + k)) k := by
  intro k
  induction k with
  | zero => rfl
  | succ k ih =>
    show rsA X ko (nI 0) k ||| (oR X ko (19 + k) <<< (nI (2 * k) &&& 31)) = _
    rw [ih]; rfl
theorem and_3 {a : Nat} (h : a < 2 ^ 32) : nI a &&& nI 3 = nI (a % 4) := by
  refine b_ext (fun i hi => ?_)
  rw [b_and, t3 i hi, bt_nI hi, bt_nI hi, show a % 4 = a % 2 ^ 2 from rfl, Nat.testBit_mod_two_pow, Bool.and_comm]
theorem nx_n {X : mI} {ko nl k lo : Nat} {r : Int32} (h10 : nl ≤ 10) (hk : k < nl) (hm : oR X ko (39 + k) = -1 ∨ ∃ a s, a < nl ∧ s ≤ 3 ∧ oR X ko (39 + k) = nI a ∧ oR X ko (49 + k) = nI s) : nxD X ko r (nI lo) k = nI ((dgN r (fLo (mdF (oR X ko)) (fun l => lo.testBit l) k) + sLo (mdS (oR X ko)) (fun l => lo.testBit l) k) % 4) := by
  unfold nxD fLo sLo
  by_cases c : lo.testBit k = true
  · rw [if_pos c, if_pos c, if_neg (fun q => by rw [(has_nI (by omega)).mp q] at c; exact absurd c (by decide)), rk_n]
    have := dg_lt (r := r) (l := k) (by omega)
    rw [show (dgN r k + 0) % 4 = dgN r k by omega]
  · rw [if_neg c, if_neg c, if_pos ((has_nI (by omega)).mpr (Bool.eq_false_iff.mpr c))]
    unfold mdF mdS
    rcases hm with h | ⟨a, s, ha, hs, e1, e2⟩
    · rw [if_pos h, if_pos h, if_pos h, rk_n]
      have := dg_lt (r := r) (l := k) (by omega)
      rw [show (dgN r k + 0) % 4 = dgN r k by omega]
    · have hne : ¬ oR X ko (39 + k) = -1 := by rw [e1]; exact nI_m1 (by omega)
      rw [if_neg hne, if_neg hne, if_neg hne, e1, e2, rk_n, nI_clamp (show a < 2 ^ 31 by omega), nI_clamp (show s < 2 ^ 31 by omega)]
      have := dg_lt (r := r) (l := a) (by omega)
      rw [show nI (dgN r a) + nI s = nI (dgN r a + s) from (Int32.ofNat_add _ _).symm, and_3 (by omega)]
def WFx (X : mI) (ko nl : Nat) : Prop := nl ≤ 10 ∧ (∀ k, k < nl → oR X ko (39 + k) = -1 ∨ ∃ a s, a < nl ∧ s ≤ 3 ∧ oR X ko (39 + k) = nI a ∧ oR X ko (49 + k) = nI s) ∧ ∀ k, k < nl → lo2 (oR X ko (19 + k))
abbrev vRk (X : mI) (ko nl lo t l : Nat) : Nat := dgN (rsN X ko nl (nI lo) (rs0 X ko nl) t) l
theorem nx_lo2 {X : mI} {ko nl lo k : Nat} {r : Int32} (h : WFx X ko nl) (hk : k < nl) : lo2 (nxD X ko r (nI lo) k) := ⟨_, Nat.mod_lt _ (by decide), nx_n h.1 hk (h.2.1 k hk)⟩
theorem vRk_V {X : mI} {ko nl lo : Nat} (h : WFx X ko nl) : isV nl (fLo (mdF (oR X ko)) (fun l => lo.testBit l)) (sLo (mdS (oR X ko)) (fun l => lo.testBit l)) (vRk X ko nl lo) := by
  refine ⟨fun t l hl => ?_, fun t l hl => dg_lt (by have := h.1; omega), fun l hl => ?_⟩
  · show dgN (roN X ko (rsN X ko nl (nI lo) (rs0 X ko nl) t) (nI lo) (nI 0) nl) l = _
    unfold dgN
    rw [ro_pk, rk_pk h.1 (fun l hl => nx_lo2 h hl) hl, nx_n h.1 hl (h.2.1 l hl), uN_nI (by omega)]
  · unfold fLo
    by_cases c : lo.testBit l = true
    · rw [if_pos c]; exact hl
    · rw [if_neg c]; unfold mdF
      rcases h.2.1 l hl with q | ⟨a, s, ha, hs, e1, e2⟩
      · rw [if_pos q]; exact hl
      · rw [if_neg (by rw [e1]; exact nI_m1 (by have := h.1; omega)), e1, nI_clamp (by have := h.1; omega)]; exact ha
theorem fLo_0 {f : Nat → Nat} : fLo f (fun l => (0 : Nat).testBit l) = f := by funext l; unfold fLo; rw [if_neg (show ¬ Nat.testBit 0 l = true by rw [Nat.zero_testBit]; decide)]
theorem sLo_0 {s : Nat → Nat} : sLo s (fun l => (0 : Nat).testBit l) = s := by funext l; unfold sLo; rw [if_neg (show ¬ Nat.testBit 0 l = true by rw [Nat.zero_testBit]; decide)]
theorem vRk_V0 {X : mI} {ko nl : Nat} (h : WFx X ko nl) : isV nl (mdF (oR X ko)) (mdS (oR X ko)) (vRk X ko nl 0) := by
  have := vRk_V (lo := 0) h
  rw [fLo_0, sLo_0] at this; exact this
/-- a rack is its digits -/
theorem rs_self {X : mI} {ko nl lo : Nat} (h : WFx X ko nl) : ∀ t, rsN X ko nl (nI lo) (rs0 X ko nl) t = pkN (fun l => nI (vRk X ko nl lo t l)) nl := by
  intro t
  cases t with
  | zero =>
    show rsA X ko (nI 0) nl = _
    rw [ra_pk]
    refine pk_cg nl (fun l hl => ?_)
    show oR X ko (19 + l) = nI (dgN (rsA X ko (nI 0) nl) l)
    rw [← rk_n, ra_pk, rk_pk h.1 h.2.2 hl]
  | succ t =>
    show roN X ko (rsN X ko nl (nI lo) (rs0 X ko nl) t) (nI lo) (nI 0) nl = _
    rw [ro_pk]
    refine pk_cg nl (fun l hl => ?_)
    show _ = nI (dgN (roN X ko (rsN X ko nl (nI lo) (rs0 X ko nl) t) (nI lo) (nI 0) nl) l)
    rw [← rk_n, ro_pk, rk_pk h.1 (fun l hl => nx_lo2 h hl) hl]
theorem rs_eq {X : mI} {ko nl lo a b : Nat} (h : WFx X ko nl) : rsN X ko nl (nI lo) (rs0 X ko nl) a = rsN X ko nl (nI lo) (rs0 X ko nl) b ↔ ∀ l, l < nl → vRk X ko nl lo a l = vRk X ko nl lo b l := by
  constructor
  · intro e l _; unfold vRk; rw [e]
  · intro e; rw [rs_self h, rs_self h]; exact pk_cg nl (fun l hl => by rw [e l hl])
theorem RO.WFx {I K : mI} {o ko nh nl nw : Nat} (H : RO I K o ko nh nl nw) : WFx (hdI (cdI K) ko) ko nl := by
  refine ⟨H.2.l10, fun k hk => ?_, fun k hk => H.2.ki k (by have := H.2.l10; omega)⟩
  rcases H.2.mi k (by have := H.2.l10; omega) with h | ⟨a, s, _, ha, _, hs, e1, e2⟩
  · exact Or.inl h.1
  · exact Or.inr ⟨a, s, ha, hs, e1, e2⟩
