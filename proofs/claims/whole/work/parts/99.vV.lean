theorem fit_inc {P : Nat → Bool} : ∀ k i j, i < j → j < (fitL P k).length → (fitL P k).getD i 0 < (fitL P k).getD j 0 := by
  intro k
  induction k with
  | zero => intro i j _ hj; exact absurd hj (Nat.not_lt_zero _)
  | succ k ih =>
    intro i j hij hj
    unfold fitL at hj ⊢
    by_cases hp : P k = true
    · rw [if_pos hp] at hj ⊢
      rw [List.length_append] at hj
      have hj2 : j < (fitL P k).length + 1 := hj
      rw [getD_app, getD_app, if_pos (show i < (fitL P k).length by omega)]
      by_cases h : j < (fitL P k).length
      · rw [if_pos h]; exact ih i j hij h
      · rw [if_neg h, if_pos (by omega)]; exact ft_lt k i (by omega)
    · rw [if_neg hp] at hj ⊢
      exact ih i j hij hj
def spE (u : Int32) (x : Nat) : Nat := if u = 0 then x / 10 else x % 10
theorem spE_lt {u : Int32} {x : Nat} (h : x < 100) : spE u x < 10 := by unfold spE; split <;> omega
theorem suNS_e {Z : mI} {u s : Int32} {k : Nat} : suNS Z u k s = if nI (spE u (hmN (Z 117) (k + 1))) = s then s else -1 := by
  unfold suNS spE
  by_cases h : u = 0
  · rw [if_pos h, if_pos h]
  · rw [if_neg h, if_neg h]
theorem suN_m {Z : mI} {u : Int32} {m : Nat} (hf : ∀ k, k < m → hmN (Z 117) (k + 1) < 100) : ∀ k, k ≤ m → suN Z u (-1) k = -1 := by
  intro k
  induction k with
  | zero => intro _; rfl
  | succ k ih =>
    intro hk
    show suNS Z u k (suN Z u (-1) k) = -1
    rw [ih (by omega), suNS_e, if_neg (nI_m1 (by have := spE_lt (u := u) (hf k (by omega)); omega))]
theorem suN_v {Z : mI} {u : Int32} {m a : Nat} (ha : a < 100) (hf : ∀ k, k < m → hmN (Z 117) (k + 1) < 100) : ∀ k, k ≤ m → suN Z u (nI a) k = if ∀ j, j < k → spE u (hmN (Z 117) (j + 1)) = a then nI a else -1 := by
  intro k
  induction k with
  | zero => intro _; rw [if_pos (fun j hj => absurd hj (Nat.not_lt_zero _))]; rfl
  | succ k ih =>
    intro hk
    show suNS Z u k (suN Z u (nI a) k) = _
    have h1 := spE_lt (u := u) (hf k (by omega))
    rw [ih (by omega), suNS_e]
    by_cases c : ∀ j, j < k → spE u (hmN (Z 117) (j + 1)) = a
    · rw [if_pos c]
      by_cases d : spE u (hmN (Z 117) (k + 1)) = a
      · rw [if_pos (by rw [d]), if_pos (fun j hj => by
          by_cases e : j = k
          · rw [e]; exact d
          · exact c j (by omega))]
      · rw [if_neg (fun q => d ((nI_eq (by omega) (by omega)).mp q)), if_neg (fun q => d (q k (by omega)))]
    · rw [if_neg c, if_neg (nI_m1 (by omega)), if_neg (fun q => c (fun j hj => q j (by omega)))]
/-- which slip is sure -/
theorem e_su {Z : mI} {P : Nat → Bool} {u : Int32} (h117 : ∀ i, i < (fitL P 100).length → Z 117 i = nI ((fitL P 100).getD i 0)) : suC (fitL P 100).length (fun i => (fitL P 100).getD i 0) (spE u) = suR Z (fitL P 100).length u := by
  have hm : ∀ i, i < (fitL P 100).length → hmN (Z 117) i = (fitL P 100).getD i 0 ∧ (fitL P 100).getD i 0 < 100 := fun i hi => by
    have h := ft_lt (P := P) 100 i hi
    refine ⟨?_, h⟩
    unfold hmN; rw [h117 i hi]; exact nI_clamp (by omega)
  have hin := fit_inc (P := P) 100
  generalize hL : fitL P 100 = L at *
  unfold suC suR
  by_cases h0 : L.length = 0
  · rw [if_pos h0, h0, if_pos (Or.inl rfl)]; rfl
  · rw [if_neg h0]
    have hl := hm (L.length - 1) (by omega)
    have hf : ∀ k, k < L.length - 1 → hmN (Z 117) (k + 1) < 100 := fun k hk => by have := hm (k + 1) (by omega); omega
    by_cases h9 : hmN (Z 117) (L.length - 1) = 99
    · rw [if_pos (Or.inr h9), suN_m hf _ (Nat.le_refl _), if_neg (fun q => (q (L.length - 1) (by omega)).1 (hl.1.symm.trans h9))]
    · have e0 : (if u = 0 then nI (hmN (Z 117) 0 / 10) else nI (hmN (Z 117) 0 % 10)) = nI (spE u (L.getD 0 0)) := by
        rw [(hm 0 (by omega)).1]; unfold spE
        by_cases h : u = 0
        · rw [if_pos h, if_pos h]
        · rw [if_neg h, if_neg h]
      rw [if_neg (show ¬ (L.length = 0 ∨ hmN (Z 117) (L.length - 1) = 99) from fun q => by rcases q with q | q; exact h0 q; exact h9 q), e0, suN_v (show spE u (L.getD 0 0) < 100 by have := spE_lt (u := u) (hm 0 (by omega)).2; omega) hf _ (Nat.le_refl _)]
      by_cases c : ∀ j, j < L.length - 1 → spE u (hmN (Z 117) (j + 1)) = spE u (L.getD 0 0)
      · rw [if_pos c, if_pos (fun k hk => by
          refine ⟨fun q => ?_, ?_⟩
          · by_cases e : k = L.length - 1
            · rw [e] at q; exact h9 (hl.1.trans q)
            · have := hin k (L.length - 1) (by omega) (by omega); have q' : L.getD k 0 = 99 := q; omega
          · cases k with
            | zero => rfl
            | succ k => have := c k (by omega); rw [(hm (k + 1) hk).1] at this; exact this)]
      · rw [if_neg c, if_neg (fun q => c (fun j hj => by rw [(hm (j + 1) (by omega)).1]; exact (q (j + 1) (by omega)).2))]
theorem akA_v {md s : Nat → Int32} {t : Nat} : ∀ k, k ≤ 6 → ∀ i h, h < 6 → akA md t s k (6 * i + h) = if i = t ∧ h < k then md h else s (6 * i + h) := by
  intro k
  induction k with
  | zero => intro _ i h _; rw [if_neg (by omega)]; rfl
  | succ k ih =>
    intro hk i h hh
    show va_up (akA md t s k) (6 * t + k) (md k) (6 * i + h) = _
    by_cases c : i = t ∧ h = k
    · rw [c.1, c.2, vup_eq, if_pos ⟨rfl, by omega⟩]
    · rw [vup_ne (by omega), ih (by omega) i h hh]
      by_cases d : i = t ∧ h < k
      · rw [if_pos d, if_pos (by omega)]
      · rw [if_neg d, if_neg (by omega)]
theorem akB_v {Z : mI} {ko nl fo : Nat} (hH : WFh (Z 106) nl) (hft : ∀ k, k < fo → hmN (Z 117) k < 60 ∨ hmN (Z 117) k = 99) {s : ak4} : ∀ k, k ≤ fo → ∀ i, i < k → ∀ h, h < 6 → (akB Z ko nl s k).1 (6 * i + h) = mvR Z ko nl (hmN (Z 117) i) h := by
  intro k
  induction k with
  | zero => intro _ i hi; exact absurd hi (Nat.not_lt_zero _)
  | succ k ih =>
    intro hk i hi h hh
    show (akBS Z ko nl k (akB Z ko nl s k)).1 (6 * i + h) = _
    unfold akBS
    generalize hq : akB Z ko nl s k = q
    show akA (acS Z ko nl (hmN (Z 117) k) q.2.1 q.2.2.1 q.2.2.2).1 k q.1 6 (6 * i + h) = _
    rw [akA_v 6 (Nat.le_refl _) i h hh]
    by_cases c : i = k
    · rw [if_pos ⟨c, hh⟩, c]; exact acS_mv hH (hft k (by omega)) hh
    · rw [if_neg (by omega), ← hq]; exact ih (by omega) i (by omega) h hh
theorem ga_lg {W V : mI} {f h t : Nat} (e : ∀ j, j < f → W 87 (6 * j + h) = V 118 (6 * j + h)) (ht : t < f) : ∀ k, k ≤ f → gaA W h t 0 k = lgA V h t 0 k ∧ gaA W h t 0 k ≤ k := by
  intro k
  induction k with
  | zero => intro _; exact ⟨rfl, Nat.le_refl _⟩
  | succ k ih =>
    intro hk
    obtain ⟨i1, i2⟩ := ih (by omega)
    have h1 : gaA W h t 0 (k + 1) = if W 87 (6 * t + h) = W 87 (6 * k + h) then gaA W h t 0 k + 1 else gaA W h t 0 k := rfl
    have h2 : lgA V h t 0 (k + 1) = if V 118 (6 * k + h) = V 118 (6 * t + h) then lgA V h t 0 k + 1 else lgA V h t 0 k + 0 := rfl
    rw [h1, h2, e t ht, e k (by omega), ← i1]
    by_cases c : V 118 (6 * t + h) = V 118 (6 * k + h)
    · rw [if_pos c, if_pos c.symm]; exact ⟨rfl, by omega⟩
    · rw [if_neg c, if_neg (fun q => c q.symm)]; exact ⟨rfl, by omega⟩
theorem ga_lgB {W V : mI} {f h : Nat} (hf : f ≤ 61) (e : ∀ j, j < f → W 87 (6 * j + h) = V 118 (6 * j + h)) : ∀ k, k ≤ f → gaB W f h (nI 0) k = lgB V f h (nI 0) k ∧ ∃ a, a ≤ f ∧ gaB W f h (nI 0) k = nI a := by
  intro k
  induction k with
  | zero => intro _; exact ⟨rfl, 0, Nat.zero_le _, rfl⟩
  | succ k ih =>
    intro hk
    obtain ⟨i1, a, ha, i2⟩ := ih (by omega)
    obtain ⟨j1, j2⟩ := ga_lg e (t := k) (by omega) f (Nat.le_refl _)
    have h1 : gaB W f h (nI 0) (k + 1) = if gaB W f h (nI 0) k < nI (gaA W h k 0 f) then nI (gaA W h k 0 f) else gaB W f h (nI 0) k := rfl
    have h2 : lgB V f h (nI 0) (k + 1) = f_gr (lgB V f h (nI 0) k) (nI (lgA V h k 0 f)) := rfl
    rw [h1, h2, ← i1, ← j1, i2]
    unfold f_gr
    by_cases c : nI a < nI (gaA W h k 0 f)
    · rw [if_pos c, if_neg (Int32.not_lt.mpr (Int32.le_of_lt c))]; exact ⟨rfl, _, j2, rfl⟩
    · rw [if_neg c]
      refine ⟨?_, a, ha, rfl⟩
      by_cases c2 : nI (gaA W h k 0 f) < nI a
      · rw [if_pos c2]
      · rw [if_neg c2]; exact Int32.le_antisymm (Int32.not_lt.mp c2) (Int32.not_lt.mp c)
theorem ask_ak {W V : mI} {f nh : Nat} (hf : f ≤ 61) (hnh : nh ≤ 6) (e : ∀ j, j < f → ∀ h, h < 6 → W 87 (6 * j + h) = V 118 (6 * j + h)) : ∀ k, k < nh → askN W f (-1, nI (f + 1)) (k + 1) = akC V f (-1, 1000000) (k + 1) := by
  intro k
  induction k with
  | zero =>
    intro hk
    obtain ⟨j1, a, ha, j2⟩ := ga_lgB (h := 0) hf (fun j hj => e j hj 0 (by omega)) f (Nat.le_refl _)
    show askNS W f 0 (-1, nI (f + 1)) = akCS V f 0 (-1, 1000000)
    unfold askNS akCS
    rw [← j1, j2]
    dsimp only
    rw [if_neg (Int32.not_le.mpr ((nI_ltI (by omega) (by omega)).mpr (by omega))), if_neg (Int32.not_le.mpr (show nI a < (1000000 : Int32) from (nI_ltI (b := 1000000) (by omega) (by decide)).mpr (by omega)))]
    unfold f_le
    rw [if_neg (Int32.not_lt.mpr (Int32.le_of_lt (show nI a < (1000000 : Int32) from (nI_ltI (b := 1000000) (by omega) (by decide)).mpr (by omega))))]
  | succ k ih =>
    intro hk
    obtain ⟨j1, _⟩ := ga_lgB (h := k + 1) hf (fun j hj => e j hj (k + 1) (by omega)) f (Nat.le_refl _)
    show askNS W f (k + 1) (askN W f (-1, nI (f + 1)) (k + 1)) = akCS V f (k + 1) (akC V f (-1, 1000000) (k + 1))
    rw [ih (by omega)]
    generalize akC V f (-1, 1000000) (k + 1) = s
    unfold askNS akCS
    rw [← j1]
    unfold f_le
    by_cases c : s.2 ≤ gaB W f (k + 1) (nI 0) f
    · rw [if_pos c, if_pos c]
      by_cases d : s.2 < gaB W f (k + 1) (nI 0) f
      · rw [if_pos d]
      · rw [if_neg d, Int32.le_antisymm c (Int32.not_lt.mp d)]
    · rw [if_neg c, if_neg c, if_neg (Int32.not_lt.mpr (Int32.le_of_lt (Int32.not_le.mp c)))]
/-- fits, below ten -/
theorem e_fitsLo {I K : mI} {o ko nh nl nw g kg c : Nat} {z : Int32} {F C M X md ls cm : Nat → Int32} (H : RO I K o ko nh nl nw) (G : RG I K g kg c) (hF : WFg K kg c nh) (hL : RL I o nl C M (ftL I o g c nh nl 100)) : anLo (g8 I F C M X md ls cm) (ftL I o g c nh nl 100).length nh (fun i => (ftL I o g c nh nl 100).getD i 0) z = ftF (lyM (lgI K ko kg) (lyT (lgI K ko kg) ko nh nl kg c)) ko nh nl (ftR (lgI K ko kg) ko nh nl kg c 100).length z := by
  have h6 := H.2.nh6
  have h10 := H.2.l10
  have hn1 := H.2.nh1
  have hH2 : WFh ((lgI K ko kg) 106) nl := lg_WFh h10 H.WFr
  have hF2 : WFg (lgI K ko kg) kg c nh := lg_WFg.mpr hF
  have h61 := ftR_61 (I := lgI K ko kg) (ko := ko) (nl := nl) (kg := kg) (c := c) h6
  have hok : ∀ i, i < _ → _ := fun i hi => ftR_ok (I := lgI K ko kg) (ko := ko) (nl := nl) (kg := kg) (c := c) (i := i) h6 hi
  have hZ := (lyN_ft (fi := (lgI K ko kg) 117) (md := (lgI K ko kg) 107) (ls := (lgI K ko kg) 108) (cm := (lgI K ko kg) 109) h6 hH2 hF2 (ko := ko) 100 (Nat.le_refl _)).2
  rw [e_ft H G hF] at hL ⊢
  have hZ1 : ∀ i, i < (ftR (lgI K ko kg) ko nh nl kg c 100).length → (lyM (lgI K ko kg) (lyT (lgI K ko kg) ko nh nl kg c)) 117 i = nI ((ftR (lgI K ko kg) ko nh nl kg c 100).getD i 0) := hZ
  have hm : ∀ i, i < (ftR (lgI K ko kg) ko nh nl kg c 100).length → hmN ((lyM (lgI K ko kg) (lyT (lgI K ko kg) ko nh nl kg c)) 117) i = (ftR (lgI K ko kg) ko nh nl kg c 100).getD i 0 := fun i hi => by
    unfold hmN; rw [hZ1 i hi]; exact nI_clamp (by have := hok i hi; omega)
  unfold anLo ftF
  by_cases c0 : z = 0
  · rw [if_pos c0, if_pos c0]
  · rw [if_neg c0, if_neg c0]
    by_cases c1 : z = 1
    · rw [if_pos c1, if_pos c1]; exact e_su (u := 1) hZ1
    · rw [if_neg c1, if_neg c1]
      by_cases c2 : z = 2
      · rw [if_pos c2, if_pos c2]; exact e_su (u := 0) hZ1
      · rw [if_neg c2, if_neg c2]
        by_cases c3 : z = 3
        · rw [if_pos c3, if_pos c3]
          unfold askC akR
          by_cases f0 : (ftR (lgI K ko kg) ko nh nl kg c 100).length = 0
          · rw [if_pos f0, if_pos f0]
          · rw [if_neg f0, if_neg f0]
            obtain ⟨m, rfl⟩ : ∃ m, nh = m + 1 := ⟨nh - 1, by omega⟩
            rw [ask_ak h61 h6 (fun j hj h hh => ?_) m (by omega)]
            have e1 := hL.2 j hj h hh
            have e2 := akB_v (Z := lyM (lgI K ko kg) (lyT (lgI K ko kg) ko (m + 1) nl kg c)) (ko := ko) (nl := nl) (fo := (ftR (lgI K ko kg) ko (m + 1) nl kg c 100).length) hH2 (fun k hk => by rw [hm k hk]; exact hok k hk) (s := ((lyM (lgI K ko kg) (lyT (lgI K ko kg) ko (m + 1) nl kg c)) 118, (lyM (lgI K ko kg) (lyT (lgI K ko kg) ko (m + 1) nl kg c)) 107, (lyM (lgI K ko kg) (lyT (lgI K ko kg) ko (m + 1) nl kg c)) 108, (lyM (lgI K ko kg) (lyT (lgI K ko kg) ko (m + 1) nl kg c)) 109)) _ (Nat.le_refl _) j hj h hh
            rw [hm j hj] at e2
            exact (e1.trans (H.mv (kg := kg) (hok j hj) hh)).trans e2.symm
        · rw [if_neg c3, if_neg c3]
