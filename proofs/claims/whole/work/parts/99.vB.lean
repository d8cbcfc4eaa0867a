theorem RO.ls {I K : mI} {o ko nh nl nw h : Nat} (H : RO I K o ko nh nl nw) : nI (ltC I o h nl) = lsR (hdI (cdI K) ko) h nl := by
  show nI (ltN (I (o + 2)) (nI h) nl) = ltsN ((hdI (cdI K) ko) 106) (nI h) nl
  rw [← lt_nI]; exact H.lts
theorem mcA_0 {I : mI} {o : Nat} {b0 : Int32} {l : Nat} {s : Int64} (h : f_has b0 (nI l) = 0) : ∀ k, mcA I o b0 l s k = s := by
  intro k
  induction k with
  | zero => rfl
  | succ k ih =>
    show mcAS I o b0 l k (mcA I o b0 l s k) = s
    unfold mcAS; rw [if_pos h]; exact ih
theorem RO.mA {I K : mI} {o ko nh nl nw l : Nat} (H : RO I K o ko nh nl nw) {b0 : Int32} {s : Int64} (hl : l < nl) (h : ¬ f_has b0 (nI l) = 0) : ∀ k, k ≤ nl → mcA I o b0 l s k = mnA (hdI (cdI K) ko) ko b0 l s k := by
  intro k
  induction k with
  | zero => intro _; rfl
  | succ k ih =>
    intro hk
    show mcAS I o b0 l k (mcA I o b0 l s k) = mnAS (hdI (cdI K) ko) ko b0 l k (mnA (hdI (cdI K) ko) ko b0 l s k)
    rw [ih (by omega)]
    unfold mcAS mnAS
    rw [if_neg h]
    by_cases e : k = l
    · subst e
      rw [if_neg h, if_pos rfl, if_pos rfl, H.ds hl (Or.inl rfl)]; rfl
    · rw [if_neg e]
      by_cases c : f_has b0 (nI k) = 0
      · rw [if_pos c, if_pos c]; exact (Int64.add_zero _).symm
      · rw [if_neg c, if_neg c, if_neg (fun q => e q.symm), H.kd (by omega), H.ds hl (H.kOK (by have := H.2.l10; omega))]; rfl
theorem RO.mB {I K : mI} {o ko nh nl nw : Nat} (H : RO I K o ko nh nl nw) {b0 : Int32} {s : Int64} : ∀ k, k ≤ nl → mcB I o nl b0 s k = mnB (hdI (cdI K) ko) ko nl b0 s k := by
  intro k
  induction k with
  | zero => intro _; rfl
  | succ k ih =>
    intro hk
    show mcA I o b0 k (mcB I o nl b0 s k) nl = mnBS (hdI (cdI K) ko) ko nl b0 k (mnB (hdI (cdI K) ko) ko nl b0 s k)
    rw [ih (by omega)]
    unfold mnBS
    by_cases c : f_has b0 (nI k) = 0
    · rw [if_pos c]; exact mcA_0 c nl
    · rw [if_neg c]; exact H.mA (by omega) c nl (Nat.le_refl _)
/-- mean -/
theorem e_mean {I K : mI} {o ko nh nl nw h : Nat} {u : Int32} (H : RO I K o ko nh nl nw) (hh : h < nh) : ptF (meC I o h nl) (lN (mxC I o h nl)) u = meR (hdI (cdI K) ko) ko h nl u := by
  have h6 := H.2.nh6
  unfold meR
  show ptF (mcB I o nl (nI (ltC I o h nl)) ((I (o + 1) h).toInt64 * lN (max 1 (onesN (nI (ltC I o h nl)) 10))) nl) (lN (max 1 (onesN (nI (ltC I o h nl)) 10))) u = _
  rw [H.ls, H.mB nl (Nat.le_refl _), H.1.mo h (by omega), Int64.mul_comm]; rfl
theorem bc_on : ∀ k, k < 1024 → bcF (nI k) = nI (onesN (nI k) 10) := by decide +kernel
theorem sub_big {b : Int32} {nl k : Nat} (hb : ∀ i, nl ≤ i → i < 32 → bt b i = false) (hk : k < 1024) (h : 2 ^ nl ≤ k) : ¬ (nI k) &&& (b ^^^ (-1)) = 0 := by
  intro e
  obtain ⟨i, hi, ht⟩ := Nat.exists_ge_and_testBit_of_ge_two_pow h
  have hi10 : i < 10 := by
    rcases Nat.lt_or_ge i 10 with q | q
    · exact q
    · have : k < 2 ^ i := Nat.lt_of_lt_of_le hk (show 2 ^ 10 ≤ 2 ^ i from Nat.pow_le_pow_right (by decide) q)
      rw [Nat.testBit_lt_two_pow this] at ht; exact absurd ht (by decide)
  have q := (sub_bt (nI k) b).mp e i (by omega) (by rw [bt_nI (by omega)]; exact ht)
  rw [hb i hi (by omega)] at q; exact absurd q (by decide)
theorem ls_big {f : Nat → Int32} {h : Int32} {nl : Nat} (hnl : nl ≤ 10) : ∀ i, nl ≤ i → i < 32 → bt (ltsN f h nl) i = false := fun i h1 h2 => by
  rw [lts_bt f h h2 nl (by omega), decide_eq_false (by omega)]
theorem RO.cc {I K : mI} {o ko nh nl nw h : Nat} (H : RO I K o ko nh nl nw) (hh : h < 6) {b0 mo x : Int32} : ∀ k, k ≤ 1024 → ccN I o nl h b0 mo (-1) k = (clN (hdI (cdI K) ko) ko nl h b0 mo (-1, x) k).1 ∧ (ccN I o nl h b0 mo (-1) k = -1 ∨ ∃ j, j < 1024 ∧ ccN I o nl h b0 mo (-1) k = nI j) := by
  intro k
  induction k with
  | zero => intro _; exact ⟨rfl, Or.inl rfl⟩
  | succ k ih =>
    intro hk
    obtain ⟨e, q⟩ := ih (by omega)
    show ccNS I o nl h b0 mo k (ccN I o nl h b0 mo (-1) k) = (clNS (hdI (cdI K) ko) ko nl h b0 mo k (clN (hdI (cdI K) ko) ko nl h b0 mo (-1, x) k)).1 ∧ (ccNS I o nl h b0 mo k (ccN I o nl h b0 mo (-1) k) = -1 ∨ ∃ j, j < 1024 ∧ ccNS I o nl h b0 mo k (ccN I o nl h b0 mo (-1) k) = nI j)
    generalize ccN I o nl h b0 mo (-1) k = c at e q
    generalize clN (hdI (cdI K) ko) ko nl h b0 mo (-1, x) k = r at e
    unfold ccNS clNS
    rw [H.bh hh, ← e]
    generalize (bhR (hdI (cdI K) ko) ko (oR (hdI (cdI K) ko) ko (3 + h)) (b0 &&& (nI k ^^^ -1)) nl).2.2 = lo
    have hnk : nI k = -1 ∨ ∃ j, j < 1024 ∧ nI k = nI j := Or.inr ⟨k, by omega, rfl⟩
    by_cases c1 : c = -1
    · rw [if_pos c1]
      by_cases c2 : nI k &&& (b0 ^^^ -1) = 0
      · rw [if_pos c2, if_pos c2, if_pos c1]
        by_cases c3 : lo < mo
        · rw [if_pos c3, if_pos c3]; exact ⟨rfl, q⟩
        · rw [if_neg c3, if_neg c3]; exact ⟨rfl, hnk⟩
      · rw [if_neg c2, if_neg c2]; exact ⟨rfl, q⟩
    · rw [if_neg c1]
      obtain ⟨j, hj, ej⟩ := q.resolve_left c1
      have hb : bcF c ≤ bcF (nI k) ↔ onesN c 10 ≤ onesN (nI k) 10 := by
        have h1 := onesN_le (nI j) 10
        have h2 := onesN_le (nI k) 10
        rw [ej, bc_on j hj, bc_on k (by omega), nI_leI (by omega) (by omega)]
      by_cases c2 : nI k &&& (b0 ^^^ -1) = 0
      · rw [if_pos c2, if_pos c2, if_neg c1]
        by_cases c4 : onesN c 10 ≤ onesN (nI k) 10
        · rw [if_pos (hb.mpr c4), if_pos c4]; exact ⟨rfl, q⟩
        · rw [if_neg (fun w => c4 (hb.mp w)), if_neg c4]
          by_cases c3 : lo < mo
          · rw [if_pos c3, if_pos c3]; exact ⟨rfl, q⟩
          · rw [if_neg c3, if_neg c3]; exact ⟨rfl, hnk⟩
      · rw [if_neg c2, if_neg c2]
        by_cases c4 : onesN c 10 ≤ onesN (nI k) 10
        · rw [if_pos (hb.mpr c4)]; exact ⟨rfl, q⟩
        · rw [if_neg (fun w => c4 (hb.mp w))]; exact ⟨rfl, q⟩
theorem cc_big {I : mI} {o nl h : Nat} {b0 mo : Int32} (hb : ∀ i, nl ≤ i → i < 32 → bt b0 i = false) : ∀ m, 2 ^ nl + m ≤ 1024 → ccN I o nl h b0 mo (-1) (2 ^ nl + m) = ccN I o nl h b0 mo (-1) (2 ^ nl) := by
  intro m
  induction m with
  | zero => intro _; rfl
  | succ m ih =>
    intro hm
    show ccNS I o nl h b0 mo (2 ^ nl + m) (ccN I o nl h b0 mo (-1) (2 ^ nl + m)) = _
    rw [ih (by omega)]
    have c2 := sub_big hb (show 2 ^ nl + m < 1024 by omega) (by omega)
    unfold ccNS
    rw [if_neg c2]
    by_cases c1 : ccN I o nl h b0 mo (-1) (2 ^ nl) = -1
    · rw [if_pos c1]
    · rw [if_neg c1]
      by_cases c4 : bcF (ccN I o nl h b0 mo (-1) (2 ^ nl)) ≤ bcF (nI (2 ^ nl + m))
      · rw [if_pos c4]
      · rw [if_neg c4]
/-- calm -/
theorem e_calm {I K : mI} {o ko nh nl nw h : Nat} {mo u : Int32} (H : RO I K o ko nh nl nw) (hh : h < nh) : clS u (caC I o nl h mo) = clR (hdI (cdI K) ko) ko nl h mo u := by
  have h6 := H.2.nh6
  have h10 := H.2.l10
  have hp : 2 ^ nl ≤ 1024 := show 2 ^ nl ≤ 2 ^ 10 from Nat.pow_le_pow_right (by decide) h10
  obtain ⟨e, q⟩ := H.cc (h := h) (by omega) (b0 := lsR (hdI (cdI K) ko) h nl) (mo := mo) (x := (hdI (cdI K) ko) 95 39) 1024 (Nat.le_refl _)
  have e2 : caC I o nl h mo = ccN I o nl h (lsR (hdI (cdI K) ko) h nl) mo (-1) 1024 := by
    show ccN I o nl h (nI (ltC I o h nl)) mo (-1) (2 ^ nl) = _
    rw [H.ls]
    have := cc_big (I := I) (o := o) (h := h) (mo := mo) (b0 := lsR (hdI (cdI K) ko) h nl) (nl := nl) (ls_big h10) (1024 - 2 ^ nl) (by omega)
    rw [show 2 ^ nl + (1024 - 2 ^ nl) = 1024 by omega] at this
    exact this.symm
  unfold clR
  rw [← e, e2]
  generalize ccN I o nl h (lsR (hdI (cdI K) ko) h nl) mo (-1) 1024 = c at q
  unfold clS
  by_cases hu : u = 0
  · rw [if_pos hu]
    by_cases c1 : c = -1
    · rw [if_pos c1, if_pos (Or.inr c1)]
    · obtain ⟨j, hj, ej⟩ := q.resolve_left c1
      rw [if_neg c1, if_neg (fun w => w.elim (fun v => v hu) c1), ej, bc_on j hj]
  · rw [if_neg hu, if_pos (Or.inl hu)]
