def swN (i j k : Nat) : Nat := if k = i then j else if k = j then i else k
theorem swN_sw {i j k : Nat} : swN i j (swN i j k) = k := by
  unfold swN
  by_cases h1 : k = i
  · subst h1
    rw [if_pos rfl]
    by_cases h2 : j = k
    · rw [if_pos h2, h2]
    · rw [if_neg h2, if_pos rfl]
  · rw [if_neg h1]
    by_cases h2 : k = j
    · rw [if_pos h2, if_pos rfl, h2]
    · rw [if_neg h2, if_neg h1, if_neg h2]
theorem swN_lt {i j k D : Nat} (hi : i < D) (hj : j < D) (hk : k < D) : swN i j k < D := by
  unfold swN; split
  · exact hj
  · split
    · exact hi
    · exact hk
theorem feB_sw {gd : Nat → Prop} {D i j : Nat} (hi : i < D) (hj : j < D) : ∀ f l (b : Nat → Nat), feB gd D f l b → feB gd D f l (fun k => b (swN i j k)) := by
  intro f
  induction f with
  | zero => intro l b _; exact trivial
  | succ f ih =>
    intro l b ⟨k, hk, hg, hf⟩
    refine ⟨swN i j k, swN_lt hi hj hk, ?_, ?_⟩
    · show gd (b (swN i j (swN i j k)) ||| 2 ^ l)
      rw [swN_sw]; exact hg
    · have := ih (l + 1) _ hf
      show feB gd D f (l + 1) (upN (fun k => b (swN i j k)) (swN i j k) (b (swN i j (swN i j k)) ||| 2 ^ l))
      rw [swN_sw]
      have e : upN (fun k => b (swN i j k)) (swN i j k) (b k ||| 2 ^ l) = fun x => upN b k (b k ||| 2 ^ l) (swN i j x) := by
        funext x
        unfold upN
        by_cases c : x = swN i j k
        · rw [if_pos c, if_pos (by rw [c, swN_sw])]
        · rw [if_neg c, if_neg (fun q => c (by rw [← q, swN_sw]))]
      rw [e]; exact this
theorem lst_n {p : Nat → Prop} : ∀ k, p k → ∃ j, j ≤ k ∧ p j ∧ ∀ i, i < j → ¬ p i := by
  intro k
  induction k using Nat.strongRecOn with
  | _ k ih =>
    intro h
    by_cases c : ∃ i, i < k ∧ p i
    · obtain ⟨i, h1, h2⟩ := c
      obtain ⟨j, a1, a2, a3⟩ := ih i h1 h2
      exact ⟨j, by omega, a2, a3⟩
    · exact ⟨k, Nat.le_refl _, h, fun i hi q => c ⟨i, hi, q⟩⟩
theorem frS_n {g : Nat → Option (List Nat)} : ∀ m k, (∀ j, k ≤ j → j < k + m → g j = none) → frS1 g m k = none := by
  intro m
  induction m with
  | zero => intro k _; rfl
  | succ m ih =>
    intro k h
    show (match g k with | some a => some a | none => frS1 g m (k + 1)) = none
    rw [h k (Nat.le_refl _) (by omega)]
    exact ih (k + 1) (fun j h1 h2 => h j (by omega) (by omega))
theorem frS_s {g : Nat → Option (List Nat)} {j : Nat} {a : List Nat} (hj : g j = some a) : ∀ m k, k ≤ j → j < k + m → (∀ i, k ≤ i → i < j → g i = none) → frS1 g m k = some a := by
  intro m
  induction m with
  | zero => intro k h1 h2; omega
  | succ m ih =>
    intro k h1 h2 h3
    show (match g k with | some a => some a | none => frS1 g m (k + 1)) = some a
    by_cases e : k = j
    · subst e; rw [hj]
    · rw [h3 k (Nat.le_refl _) (by omega)]
      exact ih (k + 1) (by omega) (by omega) (fun i h4 h5 => h3 i (by omega) h5)
abbrev ldW (hm w : Nat → Nat) (h s nl : Nat) : Nat := wsm (fun i => if hm i = h then w i else 0) (fun i => s.testBit i) nl
abbrev ctW (s : Nat) : Nat := wsm (fun _ => 1) (fun i => s.testBit i) 10
def gdA (hm w : Nat → Nat) (nh nl fo ms s : Nat) : Prop := (∀ h, h < nh → ldW hm w h s nl ≤ fo) ∧ ctW s ≤ ms
theorem gdA_m {hm w : Nat → Nat} {nh nl fo ms : Nat} : moG (gdA hm w nh nl fo ms) := fun s t h ⟨h1, h2⟩ => ⟨fun x hx => Nat.le_trans (wsm_le nl (fun i _ q => sbt_n h q)) (h1 x hx), Nat.le_trans (wsm_le 10 (fun i _ q => sbt_n h q)) h2⟩
theorem wsm_or {w : Nat → Nat} {s l N : Nat} (hs : s.testBit l = false) : wsm w (fun i => (s ||| 2 ^ l).testBit i) N = wsm w (fun i => s.testBit i) N + if l < N then w l else 0 := by
  rw [← wsm_in (P := fun i => s.testBit i) hs]
  congr 1
  funext i
  rw [Nat.testBit_or, Nat.testBit_two_pow]
  congr 1
  exact decide_eq_decide.mpr ⟨fun q => q.symm, fun q => q.symm⟩
theorem gdA_s {hm w : Nat → Nat} {nh nl fo ms s l : Nat} (hl : l < nl) (h10 : nl ≤ 10) (hh : hm l < nh) (hs : s.testBit l = false) (hg : gdA hm w nh nl fo ms s) : gdA hm w nh nl fo ms (s ||| 2 ^ l) ↔ ctW s < ms ∧ ldW hm w (hm l) s nl + w l ≤ fo := by
  have e1 : ctW (s ||| 2 ^ l) = ctW s + 1 := by rw [ctW, wsm_or hs, if_pos (by omega)]
  have e2 : ∀ h, ldW hm w h (s ||| 2 ^ l) nl = ldW hm w h s nl + if hm l = h then w l else 0 := fun h => by rw [ldW, wsm_or hs, if_pos hl]
  constructor
  · intro ⟨h1, h2⟩
    have := h1 (hm l) hh
    rw [e2, if_pos rfl] at this
    exact ⟨by omega, this⟩
  · intro ⟨h1, h2⟩
    refine ⟨fun h q => ?_, by omega⟩
    rw [e2]
    by_cases c : hm l = h
    · subst c; rw [if_pos rfl]; exact h2
    · rw [if_neg c]; exact hg.1 h q
def okF (gd : Nat → Prop) (D f l : Nat) (b : Nat → Nat) (k : Nat) : Prop := gd (b k ||| 2 ^ l) ∧ feB gd D f (l + 1) (upN b k (b k ||| 2 ^ l))
def grB (gd : Nat → Prop) (D : Nat) : Nat → Nat → (Nat → Nat) → List Nat → Prop
  | 0, _, _, as => as = []
  | f + 1, l, b, as => ∃ k as', as = k :: as' ∧ k < D ∧ okF gd D f l b k ∧ (∀ j, j < k → ¬ okF gd D f l b j) ∧ grB gd D f (l + 1) (upN b k (b k ||| 2 ^ l)) as'
theorem grB_l {gd : Nat → Prop} {D : Nat} : ∀ f l b as, grB gd D f l b as → as.length = f := by
  intro f
  induction f with
  | zero => intro l b as h; have h : as = [] := h; rw [h]; rfl
  | succ f ih =>
    intro l b as ⟨k, as', e, _, _, _, h⟩
    rw [e, List.length_cons, ih _ _ _ h]
/-- the bags' numbers and loads -/
def rgB (hm w : Nat → Nat) (nl D : Nat) (b G L : Nat → Nat) : Prop := ∀ k, k < D → G k = ctW (b k) ∧ ∀ h, h < 6 → L (6 * k + h) = ldW hm w h (b k) nl
theorem sr_go {hm w : Nat → Nat} {nh nl fo ms D : Nat} (h10 : nl ≤ 10) (h6 : nh ≤ 6) (hh : ∀ l, l < nl → hm l < nh) : ∀ f l used (G L b : Nat → Nat), l + f = nl → (∀ k, k < D → gdA hm w nh nl fo ms (b k)) → (∀ k, k < D → ∀ i, l ≤ i → (b k).testBit i = false) → (∀ k, used ≤ k → k < D → b k = 0) → rgB hm w nl D b G L → (feB (gdA hm w nh nl fo ms) D f l b → ∃ as, srF D ms fo hm w f l used G L = some as ∧ grB (gdA hm w nh nl fo ms) D f l b as) ∧ (¬ feB (gdA hm w nh nl fo ms) D f l b → srF D ms fo hm w f l used G L = none) := by
  intro f
  induction f with
  | zero => intro l used G L b _ _ _ _ _; exact ⟨fun _ => ⟨[], rfl, rfl⟩, fun h => absurd trivial h⟩
  | succ f ih =>
    intro l used G L b hl hb ht hu hr
    have hln : l < nl := by omega
    have hhl := hh l hln
    have nx : ∀ day, day < D → gdA hm w nh nl fo ms (b day ||| 2 ^ l) → (feB (gdA hm w nh nl fo ms) D f (l + 1) (upN b day (b day ||| 2 ^ l)) → ∃ as, srF D ms fo hm w f (l + 1) (max used (day + 1)) (upN G day (G day + 1)) (upN L (6 * day + hm l) (L (6 * day + hm l) + w l)) = some as ∧ grB (gdA hm w nh nl fo ms) D f (l + 1) (upN b day (b day ||| 2 ^ l)) as) ∧ (¬ feB (gdA hm w nh nl fo ms) D f (l + 1) (upN b day (b day ||| 2 ^ l)) → srF D ms fo hm w f (l + 1) (max used (day + 1)) (upN G day (G day + 1)) (upN L (6 * day + hm l) (L (6 * day + hm l) + w l)) = none) := by
      intro day hd hg
      have hbl := ht day hd l (Nat.le_refl _)
      refine ih (l + 1) _ _ _ _ (by omega) (fun k hk => ?_) (fun k hk i hi => ?_) (fun k h1 h2 => ?_) (fun k hk => ⟨?_, fun h h7 => ?_⟩)
      · unfold upN; split
        · exact hg
        · exact hb k hk
      · unfold upN; split
        · rw [Nat.testBit_or, ht day hd i (by omega), Nat.testBit_two_pow, decide_eq_false (by omega)]; rfl
        · exact ht k hk i (by omega)
      · unfold upN; rw [if_neg (by omega)]; exact hu k (by omega) h2
      · unfold upN
        by_cases c : k = day
        · rw [if_pos c, if_pos c, (hr day hd).1, show ctW (b day ||| 2 ^ l) = ctW (b day) + 1 by rw [ctW, wsm_or hbl, if_pos (by omega)]]
        · rw [if_neg c, if_neg c]; exact (hr k hk).1
      · unfold upN
        by_cases c : k = day
        · subst c
          rw [if_pos rfl, ldW, wsm_or hbl, if_pos hln]
          by_cases c2 : h = hm l
          · subst c2; rw [if_pos rfl, if_pos rfl, (hr k hk).2 _ h7]
          · rw [if_neg (by omega), if_neg (fun q => c2 q.symm), (hr k hk).2 _ h7, Nat.add_zero]
        · rw [if_neg (by omega), if_neg c]; exact (hr k hk).2 h h7
    have cd : ∀ day, day < D → ((G day < ms ∧ L (6 * day + hm l) + w l ≤ fo) ↔ gdA hm w nh nl fo ms (b day ||| 2 ^ l)) := fun day hd => by
      rw [gdA_s hln h10 hhl (ht day hd l (Nat.le_refl _)) (hb day hd), (hr day hd).1, (hr day hd).2 (hm l) (by omega)]
    have gy : ∀ day, day < D → okF (gdA hm w nh nl fo ms) D f l b day → ∃ as, (if G day < ms ∧ L (6 * day + hm l) + w l ≤ fo then (srF D ms fo hm w f (l + 1) (max used (day + 1)) (upN G day (G day + 1)) (upN L (6 * day + hm l) (L (6 * day + hm l) + w l))).map (day :: ·) else none) = some (day :: as) ∧ grB (gdA hm w nh nl fo ms) D f (l + 1) (upN b day (b day ||| 2 ^ l)) as := fun day hd ⟨h1, h2⟩ => by
      obtain ⟨as, a1, a2⟩ := (nx day hd h1).1 h2
      exact ⟨as, by rw [if_pos ((cd day hd).mpr h1), a1]; rfl, a2⟩
    have gn : ∀ day, day < D → ¬ okF (gdA hm w nh nl fo ms) D f l b day → (if G day < ms ∧ L (6 * day + hm l) + w l ≤ fo then (srF D ms fo hm w f (l + 1) (max used (day + 1)) (upN G day (G day + 1)) (upN L (6 * day + hm l) (L (6 * day + hm l) + w l))).map (day :: ·) else none) = none := fun day hd hn => by
      by_cases c : G day < ms ∧ L (6 * day + hm l) + w l ≤ fo
      · rw [if_pos c, (nx day hd ((cd day hd).mp c)).2 (fun q => hn ⟨(cd day hd).mp c, q⟩)]; rfl
      · rw [if_neg c]
    refine ⟨fun ⟨k, hk, hg, hf⟩ => ?_, fun hn => ?_⟩
    · obtain ⟨k0, q1, q2, q3⟩ := lst_n (p := fun k => okF (gdA hm w nh nl fo ms) D f l b k) k ⟨hg, hf⟩
      have hk0 : k0 < D := by omega
      have hku : k0 ≤ used := by
        rcases Nat.lt_or_ge used k0 with c | c
        · exfalso
          refine q3 used c ?_
          have e1 := hu used (Nat.le_refl _) (by omega)
          have e2 := hu k0 (by omega) hk0
          obtain ⟨p1, p2⟩ := q2
          rw [e2] at p1 p2
          unfold okF
          rw [e1]
          refine ⟨p1, ?_⟩
          have := feB_sw (i := used) (j := k0) (by omega) hk0 _ _ _ p2
          have e : (fun k => upN b k0 (0 ||| 2 ^ l) (swN used k0 k)) = upN b used (0 ||| 2 ^ l) := by
            funext k
            unfold upN swN
            by_cases d1 : k = used
            · subst d1; rw [if_pos rfl, if_pos rfl, if_pos rfl]
            · rw [if_neg d1, if_neg d1]
              by_cases d2 : k = k0
              · subst d2; rw [if_pos rfl, if_neg (by omega), e1, e2]
              · rw [if_neg d2, if_neg d2]
          rw [e] at this; exact this
        · exact c
      obtain ⟨as, a1, a2⟩ := gy k0 hk0 q2
      refine ⟨k0 :: as, ?_, k0, as, rfl, hk0, q2, q3, a2⟩
      exact frS_s a1 _ _ (Nat.zero_le _) (by omega) (fun i _ hi => gn i (by omega) (q3 i hi))
    · exact frS_n _ _ (fun j _ hj => gn j (by omega) (fun q => hn ⟨j, by omega, q.1, q.2⟩))
