theorem fpN_1 {c : Nat → Bool} : ∀ m k, (∃ i, k ≤ i ∧ i < k + m ∧ c i = true) → k ≤ fpN c m k ∧ fpN c m k < k + m ∧ c (fpN c m k) = true ∧ ∀ j, k ≤ j → j < fpN c m k → ¬ c j = true := by
  intro m
  induction m with
  | zero => rintro k ⟨i, h1, h2, _⟩; exact absurd h2 (by omega)
  | succ m ih =>
    rintro k ⟨i, h1, h2, h3⟩
    have e : fpN c (m + 1) k = if c k = true then k else fpN c m (k + 1) := rfl
    rw [e]
    by_cases q : c k = true
    · rw [if_pos q]; exact ⟨Nat.le_refl _, by omega, q, fun j a b => absurd b (by omega)⟩
    · rw [if_neg q]
      have hne : i ≠ k := fun w => q (by rw [← w]; exact h3)
      obtain ⟨a1, a2, a3, a4⟩ := ih (k + 1) ⟨i, by omega, by omega, h3⟩
      refine ⟨by omega, by omega, a3, fun j b1 b2 => ?_⟩
      by_cases w : j = k
      · subst w; exact q
      · exact a4 j (by omega) b2
def whP (X : mI) (ko : Nat) (B : Nat → Int32) (t : Nat) (x v : Int32) (a : Nat) : Prop := ¬ f_has (nI t) (nI a) = 0 ∧ obR X ko B t a x = v
theorem whN_0 {X : mI} {ko : Nat} {B : Nat → Int32} {t : Nat} {x v : Int32} : ∀ n w, (∀ a, a < n → ¬ whP X ko B t x v a) → whN X ko B t x v n w = w := by
  intro n
  induction n with
  | zero => intro w _; rfl
  | succ n ih =>
    intro w h
    have e : whN X ko B t x v (n + 1) w = whN X ko B t x v n (if f_has (nI t) (nI n) = 0 then w else if obR X ko B t n x = v then nI n else w) := rfl
    rw [e, ih _ (fun a ha => h a (by omega))]
    by_cases c : f_has (nI t) (nI n) = 0
    · rw [if_pos c]
    · rw [if_neg c, if_neg (fun q => h n (by omega) ⟨c, q⟩)]
theorem whN_1 {X : mI} {ko : Nat} {B : Nat → Int32} {t : Nat} {x v : Int32} : ∀ n w, (∃ a, a < n ∧ whP X ko B t x v a) → ∃ a, a < n ∧ whP X ko B t x v a ∧ (∀ b, b < a → ¬ whP X ko B t x v b) ∧ whN X ko B t x v n w = nI a := by
  intro n
  induction n with
  | zero => rintro w ⟨a, h, _⟩; exact absurd h (by omega)
  | succ n ih =>
    rintro w ⟨a, h1, h2⟩
    have e : whN X ko B t x v (n + 1) w = whN X ko B t x v n (if f_has (nI t) (nI n) = 0 then w else if obR X ko B t n x = v then nI n else w) := rfl
    rw [e]
    by_cases q : ∃ a, a < n ∧ whP X ko B t x v a
    · obtain ⟨b, b1, b2, b3, b4⟩ := ih (if f_has (nI t) (nI n) = 0 then w else if obR X ko B t n x = v then nI n else w) q
      exact ⟨b, by omega, b2, b3, b4⟩
    · have hn : a = n := by
        rcases Nat.lt_or_ge a n with z | z
        · exact absurd ⟨a, z, h2⟩ q
        · omega
      subst hn
      refine ⟨a, by omega, h2, fun b hb z => q ⟨b, hb, z⟩, ?_⟩
      rw [if_neg h2.1, if_pos h2.2]
      exact whN_0 a _ (fun b hb z => q ⟨b, hb, z⟩)
theorem sz_on {I : mI} {o h nl A : Nat} {wo sg : Int32} {s0 : gr4} (hz : s0.1 = 0) (hnl : nl ≤ 10) (hA : ∀ l, A.testBit l = true ↔ l < nl ∧ I (o + 2) l = nI h ∧ ¬ nI l = wo) : ∀ k, k ≤ nl → (grA I o h wo sg s0 k).1 = onesN (nI A) k := by
  intro k
  induction k with
  | zero => intro _; exact hz
  | succ k ih =>
    intro hk
    have e := ih (by omega)
    have f : grA I o h wo sg s0 (k + 1) = grAS I o h wo sg k (grA I o h wo sg s0 k) := rfl
    rw [f, onesN_s _ (by omega), bt_nI (by omega), ← e]
    unfold grAS
    by_cases c1 : I (o + 2) k = nI h
    · rw [if_pos c1]
      by_cases c2 : nI k = wo
      · rw [if_pos c2, if_neg (fun q => ((hA k).mp q).2.2 c2)]; rfl
      · rw [if_neg c2, if_pos ((hA k).mpr ⟨by omega, c1, c2⟩)]
    · rw [if_neg c1, if_neg (fun q => c1 ((hA k).mp q).2.1)]; rfl
theorem on_big {A nl : Nat} (hA : A < 2 ^ nl) : ∀ m, nl + m ≤ 32 → onesN (nI A) (nl + m) = onesN (nI A) nl := by
  intro m
  induction m with
  | zero => intro _; rfl
  | succ m ih =>
    intro hm
    rw [show nl + (m + 1) = (nl + m) + 1 by omega, onesN_s _ (by omega), ih (by omega), bt_nI (by omega), Nat.testBit_lt_two_pow (Nat.lt_of_lt_of_le hA (Nat.pow_le_pow_right (by decide) (by omega)))]; rfl
theorem on_rm {t i : Nat} (hi : i < 10) (ht : t < 1024) (h : ¬ f_has (nI t) (nI i) = 0) : onesN (nI (rmN t i)) 10 + 1 = onesN (nI t) 10 := by
  have key : ∀ k, k ≤ 10 → onesN (nI (rmN t i)) k + (if i < k then 1 else 0) = onesN (nI t) k := by
    intro k
    induction k with
    | zero => intro _; rfl
    | succ k ih =>
      intro hk
      have q := ih (by omega)
      rw [onesN_s _ (by omega), onesN_s _ (by omega), bt_nI (by omega), bt_nI (by omega), rm_bt (by omega) (by omega)]
      by_cases c : k = i
      · subst c
        rw [if_neg (show ¬ k < k by omega)] at q
        rw [if_pos (show k < k + 1 by omega), decide_eq_true rfl, (hasT (by omega)).mp h, Bool.not_true, Bool.and_false, if_neg Bool.false_ne_true, if_pos rfl]; omega
      · rw [decide_eq_false c, Bool.not_false, Bool.and_true]
        by_cases d : i < k
        · rw [if_pos d] at q; rw [if_pos (show i < k + 1 by omega)]; omega
        · rw [if_neg d] at q; rw [if_neg (show ¬ i < k + 1 by omega)]; omega
  have := key 10 (Nat.le_refl _)
  rw [if_pos hi] at this; exact this
/-- one more letter, on both sides -/
theorem ord_key {I X : mI} {o ko nl A h : Nat} {wo u : Int32} {q : gr4} {ga B0 : Nat → Int32} (H : OH I o X ko nl) (hA : A < 2 ^ nl) (G : GR I o h wo (sgU u) q nl) (hg0 : ∀ j, j < 5 → ga j = 0) {t' t a i : Nat} (hrel : relT q t' t) (hs : t &&& A = t) (ha : a < 5) (hi : i < q.1) (hb : ¬ f_has (nI t') (nI i) = 0) : (q.2.2.2 (5 * i + a) + mgT q ga (5 * rmN t' i + hmN q.2.2.1 i) = mgT q ga (5 * t' + a)) ↔ obR X ko (foN X ko nl (nI A) u B0 1024) t (hmN q.2.1 i) (slA (saN a)) = foN X ko nl (nI A) u B0 1024 (5 * t + saN a) := by
  have hbo := bo_k (u := u) (B0 := B0) H hA
  have hoe := ord_eq (u := u) (B0 := B0) (ga := ga) H hA G hg0
  obtain ⟨h10, hW, hd⟩ := H
  have hsz := G.sz
  have hp : 2 ^ nl ≤ 2 ^ 10 := Nat.pow_le_pow_right (by decide) h10
  have hp2 : 2 ^ q.1 ≤ 2 ^ 10 := Nat.pow_le_pow_right (by decide) (by omega)
  have htA : t ≤ A := by have := Nat.and_le_right (n := t) (m := A); rw [hs] at this; exact this
  obtain ⟨sl1, sl2⟩ := sa_sl ha
  have r := hrel
  obtain ⟨r1, r2, r3⟩ := hrel
  obtain ⟨a1, a2, a3, a4, a5, a6⟩ := G.el i hi
  have hl10 : hmN q.2.1 i < 10 := by omega
  have hk4 := (hW _ hl10).2
  have hkk : hmN q.2.2.1 i = kdN X ko (hmN q.2.1 i) := by
    show (q.2.2.1 i).toNatClampNeg = kdN X ko (hmN q.2.1 i)
    rw [a5, (hd _ a1).1]; exact nI_clamp (by omega)
  have hbt : ¬ f_has (nI t) (nI (hmN q.2.1 i)) = 0 := (hasT (by omega)).mpr ((r3 _ hl10).mpr ⟨i, hi, (hasT (by omega)).mp hb, rfl⟩)
  have rt := rm_sm (t := t) (l := hmN q.2.1 i) (by omega) (by omega) hbt
  have hrs := rm_sub (t := t) (A := A) (i := hmN q.2.1 i) (by omega) (by omega) hs
  have e1 := hoe (rmN t' i) (rmN t (hmN q.2.1 i)) (relT_rm G h10 r hi hb) hrs (kdN X ko (hmN q.2.1 i)) (by omega)
  have e0 := hoe t' t r hs a ha
  rw [show saN (kdN X ko (hmN q.2.1 i)) = 1 + kdN X ko (hmN q.2.1 i) by unfold saN; rw [if_neg (by omega)]; omega] at e1
  have bb := (hbo (rmN t (hmN q.2.1 i)) hrs (1 + kdN X ko (hmN q.2.1 i)) (by omega)).1
  generalize foN X ko nl (nI A) u B0 1024 = B at e1 e0 bb
  generalize mgT q ga = M at e1 e0
  obtain ⟨f1, f2⟩ := (hd _ a1).2 (slA (saN a)) (kOK_sl sl2)
  rw [a6 a ha, sl1, f1, hkk]
  obtain ⟨s1_, s2_⟩ := sg_mul (u := u) f2 (by decide)
  have bM : bnI (M (5 * rmN t' i + kdN X ko (hmN q.2.1 i))) (81 * rmN t (hmN q.2.1 i)) := by
    unfold bnI at bb ⊢
    rw [e1]; unfold sgZ
    by_cases c : u = 0
    · rw [if_pos c]; omega
    · rw [if_neg c]; omega
  have ev : (sgU u * dsR X ko (hmN q.2.1 i) (slA (saN a)) + M (5 * rmN t' i + kdN X ko (hmN q.2.1 i))).toInt = sgZ u * (obR X ko B t (hmN q.2.1 i) (slA (saN a))).toInt := by
    rw [(bn_add s2_ bM (by omega)).1, s1_, e1]
    unfold obR
    rw [show 5 * rmN t (hmN q.2.1 i) + 1 + kdN X ko (hmN q.2.1 i) = 5 * rmN t (hmN q.2.1 i) + (1 + kdN X ko (hmN q.2.1 i)) by omega, (bn_add f2 bb (by omega)).1, Int.mul_add]
  constructor
  · intro w
    apply i32_ext
    rw [w, e0] at ev
    unfold sgZ at ev
    by_cases c : u = 0
    · rw [if_pos c] at ev; omega
    · rw [if_neg c] at ev; omega
  · intro w
    apply i32_ext
    rw [ev, e0, w]
