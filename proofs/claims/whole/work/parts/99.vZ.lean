theorem way_i {f : Nat → Nat} {c k : Nat} (h0 : 0 < c) (h : itf f c k = k) (hl : ∀ i, 0 < i → i ≤ c → k ≤ itf f i k) : ∀ i, k ≤ itf f i k := by
  intro i
  have e : itf f i k = itf f (i % c) k := by
    have h1 := Nat.div_add_mod i c
    rw [← h1, itf_add, itf_mul h, h1]
  rw [e]
  by_cases c2 : i % c = 0
  · rw [c2]; exact Nat.le_refl _
  · exact hl _ (by omega) (by have := Nat.mod_lt i h0; omega)
theorem lr_1 {mn : Nat → Int32} {f : Nat → Nat} {n k : Nat} (hn : n ≤ 10) (hm : ∀ l, l < n → mn l = -1 ∨ (mn l = nI (f l) ∧ f l < n)) (hk : k < n) : ∀ fu le a, a < n → le ≤ k → lrN mn (nI k) fu (nI le) (nI a) = nI k → le = k ∧ ∃ c, 0 < c ∧ c ≤ fu ∧ itf f c a = k ∧ ∀ i, 0 < i → i ≤ c → k ≤ itf f i a := by
  intro fu
  induction fu with
  | zero => intro le a _ _ h; exact absurd h.symm (nI_m1 (by omega))
  | succ fu ih =>
    intro le a ha hle h
    unfold lrN at h
    rw [nI_clamp (show a < 2 ^ 31 by omega)] at h
    rcases hm a ha with q | ⟨q, hf⟩
    · rw [if_pos q] at h; exact absurd h.symm (nI_m1 (by omega))
    · rw [q, if_neg (nI_m1 (by omega))] at h
      by_cases c : f a = k
      · rw [c, if_pos rfl] at h
        have e := (nI_eq (by omega) (by omega)).mp h
        refine ⟨e, 1, by omega, by omega, c, fun i h1 h2 => ?_⟩
        rw [show i = 1 by omega]; show k ≤ f a; omega
      · rw [if_neg (fun x => c ((nI_eq (by omega) (by omega)).mp x))] at h
        have e : (if nI (f a) < nI le then nI (f a) else nI le) = nI (min le (f a)) := by
          by_cases d : f a < le
          · rw [if_pos ((nI_ltI (by omega) (by omega)).mpr d), Nat.min_eq_right (by omega)]
          · rw [if_neg (fun x => d ((nI_ltI (by omega) (by omega)).mp x)), Nat.min_eq_left (by omega)]
        rw [e] at h
        obtain ⟨q1, c', q2, q3, q4, q5⟩ := ih _ _ hf (by omega) h
        refine ⟨by omega, c' + 1, by omega, by omega, q4, fun i h1 h2 => ?_⟩
        cases i with
        | zero => omega
        | succ i =>
          show k ≤ itf f i (f a)
          by_cases z : i = 0
          · rw [z]; show k ≤ f a; omega
          · exact q5 i (by omega) (by omega)
theorem lr_2 {mn : Nat → Int32} {f : Nat → Nat} {n k : Nat} (hn : n ≤ 10) (hf : ∀ l, l < n → f l < n) (hk : k < n) : ∀ fu a c, a < n → 0 < c → c ≤ fu → itf f c a = k → (∀ i, i < c → mn (itf f i a) = nI (f (itf f i a))) → (∀ i, 0 < i → i ≤ c → k ≤ itf f i a) → lrN mn (nI k) fu (nI k) (nI a) = nI k := by
  intro fu
  induction fu with
  | zero => intro a c _ h0 h; omega
  | succ fu ih =>
    intro a c ha h0 hc e hm hl
    unfold lrN
    have q : mn a = nI (f a) := hm 0 h0
    have hfa := hf a ha
    rw [nI_clamp (show a < 2 ^ 31 by omega), q, if_neg (nI_m1 (by omega))]
    by_cases d : f a = k
    · rw [d, if_pos rfl]
    · rw [if_neg (fun x => d ((nI_eq (by omega) (by omega)).mp x))]
      have h1 : k ≤ f a := hl 1 (by omega) (by omega)
      rw [if_neg (fun x => by have := (nI_ltI (by omega) (by omega)).mp x; omega)]
      cases c with
      | zero => omega
      | succ c =>
        have hc0 : 0 < c := by
          rcases Nat.eq_zero_or_pos c with z | z
          · subst z; exact absurd e d
          · exact z
        exact ih (f a) c hfa hc0 (by omega) e (fun i hi => hm (i + 1) (by omega)) (fun i h2 h3 => hl (i + 1) (by omega) (by omega))
theorem wsm_2 {k : Nat} : ∀ n, wsm (fun i => 2 ^ i) (fun i => k.testBit i) n = k % 2 ^ n := by
  intro n
  induction n with
  | zero => show 0 = k % 1; omega
  | succ n ih =>
    show wsm (fun i => 2 ^ i) (fun i => k.testBit i) n + (if k.testBit n = true then 2 ^ n else 0) = _
    rw [ih, Nat.mod_pow_succ, Nat.testBit_eq_decide_div_mod_eq]
    by_cases c : k / 2 ^ n % 2 = 1
    · rw [if_pos (decide_eq_true c), c, Nat.mul_one]
    · rw [if_neg (by rw [decide_eq_false c]; decide), show k / 2 ^ n % 2 = 0 by omega, Nat.mul_zero]
theorem wsm_1 {k : Nat} : ∀ n, n ≤ 31 → wsm (fun _ => 1) (fun i => k.testBit i) n = onesN (nI k) n := by
  intro n
  induction n with
  | zero => intro _; rfl
  | succ n ih =>
    intro h
    rw [onesN_s _ (by omega), bt_nI (by omega), ← ih (by omega)]; rfl
theorem ones_top {k n : Nat} (hk : k < 2 ^ n) (hn : n ≤ 10) : onesN (nI k) n = onesN (nI k) 10 := by
  have : ∀ m, n + m ≤ 10 → onesN (nI k) (n + m) = onesN (nI k) n := by
    intro m
    induction m with
    | zero => intro _; rfl
    | succ m ih =>
      intro h
      show onesN (nI k) (n + m + 1) = _
      rw [onesN_s _ (by omega), nI_big hk (by omega), ih (by omega), if_neg Bool.false_ne_true]; rfl
  have q := this (10 - n) (by omega)
  rw [show n + (10 - n) = 10 by omega] at q; exact q.symm
/-- the first of the least sets -/
theorem loN_v {X : mI} {ko nl g : Nat} (hg : g < 2 ^ nl) (hs : roR X ko nl (rsN X ko nl (nI g) (rs0 X ko nl) 20) (nI g) = rsN X ko nl (nI g) (rs0 X ko nl) 20) (hn : nl ≤ 10) (hl : ∀ k, k < 2 ^ nl → roR X ko nl (rsN X ko nl (nI k) (rs0 X ko nl) 20) (nI k) = rsN X ko nl (nI k) (rs0 X ko nl) 20 → g ≤ k ∧ onesN (nI g) 10 ≤ onesN (nI k) 10) : ∀ k, k ≤ 2 ^ nl → loN X ko nl (-1) k = if k ≤ g then -1 else nI g := by
  have hp : 2 ^ nl ≤ 1024 := show 2 ^ nl ≤ 2 ^ 10 from Nat.pow_le_pow_right (by decide) hn
  intro k
  induction k with
  | zero => intro _; rw [if_pos (Nat.zero_le _)]; rfl
  | succ k ih =>
    intro hk
    show loNS X ko nl k (loN X ko nl (-1) k) = _
    rw [ih (by omega)]
    unfold loNS
    by_cases c : k ≤ g
    · rw [if_pos c, if_pos rfl]
      by_cases d : k = g
      · rw [d, if_pos hs, if_neg (show ¬ g + 1 ≤ g by omega)]
      · rw [if_neg (fun q => by have := (hl k (by omega) q).1; omega), if_pos (show k + 1 ≤ g by omega)]
    · rw [if_neg c, if_neg (nI_m1 (show g < 2 ^ 31 by omega)), if_neg (show ¬ k + 1 ≤ g by omega)]
      by_cases d : onesN (nI g) 10 ≤ onesN (nI k) 10
      · rw [if_pos d]
      · rw [if_neg d, if_neg (fun q => d (hl k (by omega) q).2)]
theorem lo_st {I : mI} {o nl : Nat} {bl : Int32} : ∀ k, loC I o nl bl (nI 0) k = stSet (fun k => ¬ (¬ f_has bl (nI k) = 0 ∧ lrN (I (o + 6)) (nI k) nl (nI k) (nI k) = nI k)) k := by
  intro k
  induction k with
  | zero => rfl
  | succ k ih =>
    show loCS I o nl bl k (loC I o nl bl (nI 0) k) = if ¬ (¬ f_has bl (nI k) = 0 ∧ lrN (I (o + 6)) (nI k) nl (nI k) (nI k) = nI k) then stSet (fun k => ¬ (¬ f_has bl (nI k) = 0 ∧ lrN (I (o + 6)) (nI k) nl (nI k) (nI k) = nI k)) k else stSet (fun k => ¬ (¬ f_has bl (nI k) = 0 ∧ lrN (I (o + 6)) (nI k) nl (nI k) (nI k) = nI k)) k ||| (nI 1 <<< (nI k &&& 31))
    rw [← ih]
    unfold loCS
    by_cases c : f_has bl (nI k) = 0
    · rw [if_pos c, if_pos (fun q => q.1 c)]
    · rw [if_neg c]
      by_cases d : lrN (I (o + 6)) (nI k) nl (nI k) (nI k) = nI k
      · rw [if_pos d, if_neg (fun q => q ⟨c, d⟩)]
      · rw [if_neg d, if_pos (fun q => d q.2)]
/-- ruled 2: the letters let loose -/
theorem e_loose {I K : mI} {o ko nh nl nw : Nat} {bl : Int32} (H : RO I K o ko nh nl nw) (hb : ∀ l, l < 32 → (bt bl l = true ↔ l < nl ∧ ∃ j, ¬ vRk (hdI (cdI K) ko) ko nl 0 (10 + j) l = vRk (hdI (cdI K) ko) ko nl 0 10 l)) : loC I o nl bl (nI 0) nl = loN (hdI (cdI K) ko) ko nl (-1) (2 ^ nl) := by
  have h10 := H.2.l10
  have hp : 2 ^ nl ≤ 1024 := show 2 ^ nl ≤ 2 ^ 10 from Nat.pow_le_pow_right (by decide) h10
  have V := vRk_V0 H.WFx
  have hm : ∀ l, l < nl → I (o + 6) l = -1 ∨ (I (o + 6) l = nI (mdF (oR (hdI (cdI K) ko) ko) l) ∧ mdF (oR (hdI (cdI K) ko) ko) l < nl) := fun l hl => by
    have e6 : I (o + 6) l = oR (hdI (cdI K) ko) ko (39 + l) := H.1.mi l (by omega)
    rw [e6]
    rcases H.WFx.2.1 l hl with q | ⟨a, s, ha, hs, e1, e2⟩
    · exact Or.inl q
    · refine Or.inr ?_
      unfold mdF
      rw [if_neg (by rw [e1]; exact nI_m1 (by omega)), e1, nI_clamp (by omega)]
      exact ⟨rfl, ha⟩
  have hfx : ∀ l, l < nl → I (o + 6) l = -1 → mdF (oR (hdI (cdI K) ko) ko) l = l ∧ mdS (oR (hdI (cdI K) ko) ko) l = 0 := fun l hl q => by
    have e6 : I (o + 6) l = oR (hdI (cdI K) ko) ko (39 + l) := H.1.mi l (by omega)
    rw [e6] at q
    unfold mdF mdS
    rw [if_pos q, if_pos q]; exact ⟨rfl, rfl⟩
  have hG : ∀ l, l < 32 → (bt (loC I o nl bl (nI 0) nl) l = true ↔ inG nl (mdF (oR (hdI (cdI K) ko) ko)) (vRk (hdI (cdI K) ko) ko nl 0) l) := by
    intro l hl
    rw [lo_st, stSet_bt hl nl (by omega)]
    have hh : ¬ f_has bl (nI l) = 0 ↔ bt bl l = true := by rw [hasz_bt bl hl]; exact Bool.not_eq_false _ ▸ Iff.rfl
    constructor
    · rintro ⟨h1, h2⟩
      obtain ⟨h3, h4⟩ := Classical.not_not.mp h2
      obtain ⟨_, j, hj⟩ := (hb l hl).mp (hh.mp h3)
      obtain ⟨_, c, c0, c1, c2, c3⟩ := lr_1 h10 hm h1 nl l l h1 (Nat.le_refl _) h4
      exact ⟨h1, ⟨c, c0, c1, c2⟩, way_i c0 c2 c3, j, hj⟩
    · rintro ⟨h1, ⟨c, c0, c1, c2⟩, h3, j, hj⟩
      refine ⟨h1, fun q => q ⟨hh.mpr ((hb l hl).mpr ⟨h1, j, hj⟩), lr_2 h10 V.2.2 h1 nl l c h1 c0 c1 c2 (fun i hi => ?_) (fun i _ _ => h3 i)⟩⟩
      have hin := itf_lt V.2.2 i l h1
      rcases hm _ hin with x | x
      · exfalso
        obtain ⟨y1, y2⟩ := hfx _ hin x
        have ea : itf (mdF (oR (hdI (cdI K) ko) ko)) i l = l := by
          have := itf_back (i := i) c0 c2
          rw [itf_fix y1] at this; exact this
        rw [ea] at y1 y2
        have st : ∀ t, vRk (hdI (cdI K) ko) ko nl 0 (t + 1) l = vRk (hdI (cdI K) ko) ko nl 0 t l := fun t => by
          have z1 := V.1 t l h1
          have z2 := V.2.1 t l h1
          rw [y1, y2] at z1
          rw [z1, Nat.add_zero]; exact Nat.mod_eq_of_lt z2
        have st2 : ∀ t, vRk (hdI (cdI K) ko) ko nl 0 (10 + t) l = vRk (hdI (cdI K) ko) ko nl 0 10 l := by
          intro t
          induction t with
          | zero => rfl
          | succ t ih => exact (st (10 + t)).trans ih
        exact hj (st2 j)
      · exact x.1
  obtain ⟨g, hg, eg⟩ := set_nI (x := loC I o nl bl (nI 0) nl) (m := nl) (fun i hi => by
    by_cases h : i < 32
    · cases q : bt (loC I o nl bl (nI 0) nl) i with
      | false => rfl
      | true => have := ((hG i h).mp q).1; omega
    · exact b_big (by omega))
  rw [eg] at hG ⊢
  have hG2 : ∀ l, l < nl → ((fun i => g.testBit i) l = true ↔ inG nl (mdF (oR (hdI (cdI K) ko) ko)) (vRk (hdI (cdI K) ko) ko nl 0) l) := fun l hl => by
    have := hG l (by omega)
    rw [bt_nI (by omega)] at this; exact this
  have hset : ∀ k, roR (hdI (cdI K) ko) ko nl (rsN (hdI (cdI K) ko) ko nl (nI k) (rs0 (hdI (cdI K) ko) ko nl) 20) (nI k) = rsN (hdI (cdI K) ko) ko nl (nI k) (rs0 (hdI (cdI K) ko) ko nl) 20 ↔ ∀ l, l < nl → vRk (hdI (cdI K) ko) ko nl k 21 l = vRk (hdI (cdI K) ko) ko nl k 20 l := fun k => rs_eq (a := 21) (b := 20) H.WFx
  rw [loN_v hg ((hset g).mpr (lo_good h10 V (vRk_V H.WFx) (fun l _ => rfl) hG2)) h10 (fun k hk q => ?_) _ (Nat.le_refl _), if_neg (by omega)]
  have hk2 := (hset k).mp q
  have a1 := lo_least (wt := fun i => 2 ^ i) V (vRk_V (lo := k) H.WFx) (fun l _ => rfl) hk2 hG2 (fun a b h => Nat.pow_le_pow_right (by decide) h)
  have a2 := lo_least (wt := fun _ => 1) V (vRk_V (lo := k) H.WFx) (fun l _ => rfl) hk2 hG2 (fun a b h => Nat.le_refl _)
  rw [wsm_2, wsm_2, Nat.mod_eq_of_lt hg, Nat.mod_eq_of_lt hk] at a1
  rw [wsm_1 nl (by omega), wsm_1 nl (by omega), ones_top hg h10, ones_top hk h10] at a2
  exact ⟨a1, a2⟩
