theorem lw_gd {b : Nat} {s : State} (hts : ∀ w ∈ lw_tbl, w.before #[Value.ref b] s = true) : ∀ w ∈ m_gd, w.before #[Value.ref b] s = true := fun w hw => hts w (List.mem_filter.mp hw).1
theorem lw_K {b : Nat} {s : State} (hts : ∀ w ∈ lw_tbl, w.before #[Value.ref b] s = true) : ∃ (D : va_G) (cA : Nat → ClassId), va_K D m_cl (m_tys cA) s := by
  have ht1 : ∀ w ∈ tables_1, w.before #[Value.ref b] s = true := fun w hw => hts w (List.mem_append_right _ hw)
  have hgd := lw_gd hts
  obtain ⟨c0, i0, K0⟩ := u_known (C := m_C0) (T := m_T0) (N := 6) hgd kw_0 (ht1 _ (nf_in 0 (by decide)))
  obtain ⟨c1, i1, K1⟩ := u_known (C := m_C1) (T := m_T1) (N := 5) hgd kw_1 (ht1 _ (nf_in 1 (by decide)))
  obtain ⟨c2, i2, K2⟩ := u_known (C := m_C2) (T := m_T2) (N := 13) hgd kw_2 (ht1 _ (nf_in 2 (by decide)))
  obtain ⟨c3, i3, K3⟩ := u_known (C := m_C3) (T := m_T3) (N := 3) hgd kw_3 (ht1 _ (nf_in 3 (by decide)))
  obtain ⟨c4, i4, K4⟩ := u_known (C := m_C4) (T := m_T4) (N := 11) hgd kw_4 (ht1 _ (nf_in 4 (by decide)))
  obtain ⟨c5, i5, K5⟩ := u_known (C := m_C5) (T := m_T5) (N := 10) hgd kw_5 (ht1 _ (nf_in 5 (by decide)))
  obtain ⟨c6, i6, K6⟩ := u_known (C := m_C6) (T := m_T6) (N := 2) hgd kw_6 (ht1 _ (nf_in 6 (by decide)))
  obtain ⟨c7, i7, K7⟩ := u_known (C := m_C7) (T := m_T7) (N := 18) hgd kw_7 (ht1 _ (nf_in 7 (by decide)))
  obtain ⟨c8, i8, K8⟩ := u_known (C := m_C8) (T := m_T8) (N := 5) hgd kw_8 (ht1 _ (nf_in 8 (by decide)))
  obtain ⟨c9, i9, K9⟩ := u_known (C := m_C9) (T := m_T9) (N := 8) hgd kw_9 (ht1 _ (nf_in 9 (by decide)))
  obtain ⟨c10, i10, K10⟩ := u_known (C := m_C10) (T := m_T10) (N := 4) hgd kw_10 (ht1 _ (nf_in 10 (by decide)))
  obtain ⟨c11, i11, K11⟩ := u_known (C := m_C11) (T := m_T11) (N := 9) hgd kw_11 (ht1 _ (nf_in 11 (by decide)))
  obtain ⟨c12, i12, K12⟩ := u_known (C := m_C12) (T := m_T12) (N := 55) hgd kw_12 (ht1 _ (nf_in 12 (by decide)))
  obtain ⟨ai, ki, ci, a1, a2, a3⟩ := Cond.arrayClass_spec (ht1 _ nf_ac.1)
  obtain ⟨ab, kb, cb, b1, b2, b3⟩ := Cond.arrayClass_spec (ht1 _ nf_ac.2.1)
  obtain ⟨az, kz, cz, z1, z2, z3⟩ := Cond.arrayClass_spec (ht1 _ nf_ac.2.2)
  obtain ⟨p0, q0, r0, o0, _, s0, t0, u0⟩ := Cond.arrayOver_spec (ht1 _ (nf_ao "SortedOffice$Told" (by decide)))
  obtain ⟨p1, q1, r1, o1, _, s1, t1, u1⟩ := Cond.arrayOver_spec (ht1 _ (nf_ao "SortedOffice$Office" (by decide)))
  obtain ⟨p2, q2, r2, o2, _, s2, t2, u2⟩ := Cond.arrayOver_spec (ht1 _ (nf_ao "SortedOffice$Week" (by decide)))
  obtain ⟨p3, q3, r3, o3, _, s3, t3, u3⟩ := Cond.arrayOver_spec (ht1 _ (nf_ao "SortedOffice$Log" (by decide)))
  refine ⟨(fun k => [c0, c1, c2, c3, c4, c5, c6, c7, c8, c9, c10, c11, c12].getD k 0, fun k => [i0, i1, i2, i3, i4, i5, i6, i7, i8, i9, i10, i11, i12].getD k (fun _ => 0)), fun k => [ai, ab, az, q0, q1, q2, q3].getD (k - 50) 0, fun k q hq => ?_, fun k q hq => ?_⟩
  · match k, hq with
    | 0, hq => cases hq; exact K0
    | 1, hq => cases hq; exact K1
    | 2, hq => cases hq; exact K2
    | 3, hq => cases hq; exact K3
    | 4, hq => cases hq; exact K4
    | 5, hq => cases hq; exact K5
    | 6, hq => cases hq; exact K6
    | 7, hq => cases hq; exact K7
    | 8, hq => cases hq; exact K8
    | 9, hq => cases hq; exact K9
    | 10, hq => cases hq; exact K10
    | 11, hq => cases hq; exact K11
    | 12, hq => cases hq; exact K12
    | k + 13, hq => simp [m_cl] at hq
  · match k, hq with
    | 0, hq => cases hq; exact ⟨fun n z => ⟨fun k h => (by cases h), ki, a2, ci, a3⟩, a1⟩
    | 1, hq => cases hq; exact ⟨fun n z => ⟨fun k h => (by cases h), kb, b2, cb, b3⟩, b1⟩
    | 2, hq => cases hq; exact ⟨fun n z => ⟨fun k h => (by cases h), kz, z2, cz, z3⟩, z1⟩
    | 3, hq => cases hq; exact ⟨fun n z => ⟨fun k h => (by cases h), r0, s0, p0, t0⟩, r0, p0, s0, t0, o0, u0⟩
    | 4, hq => cases hq; exact ⟨fun n z => ⟨fun k h => (by cases h), r1, s1, p1, t1⟩, r1, p1, s1, t1, o1, u1⟩
    | 5, hq => cases hq; exact ⟨fun n z => ⟨fun k h => (by cases h), r2, s2, p2, t2⟩, r2, p2, s2, t2, o2, u2⟩
    | 6, hq => cases hq; exact ⟨fun n z => ⟨fun k h => (by cases h), r3, s3, p3, t3⟩, r3, p3, s3, t3, o3, u3⟩
    | k + 7, hq => simp [m_tys] at hq
theorem ms_get : ∀ i, i < 19 → m_strs[i]? = some ((m_strs.map Prod.fst).getD i 0, (m_strs.map Prod.snd).getD i "") := by decide +kernel
theorem ms_no {i : Nat} (h : 19 ≤ i) : m_strs[i]? = none := List.getElem?_eq_none h
theorem lw_car {p : Program} {s : State} {m : MethodId} {meth : Method} {c : Code} {b L : Nat} {xs : Nat → Int32} (hL : L ≤ 3072) (C0 : lw_At p s m meth c b L xs) : ∃ (X : Nat → Nat) (D : va_G) (cA : Nat → ClassId), m_car (L, xs) s.heap.size X D cA s ∧ X 1000000 = b := by
  obtain ⟨hx, hb, hr, hml, hown, hts, hX, hbl, hlocks, hgv⟩ := id C0
  have ht1 : ∀ w ∈ tables_1, w.before #[Value.ref b] s = true := fun w hw => hts w (List.mem_append_right _ hw)
  have hf := flat_of_before _ hgv
  have hA : ∀ a : Nat, a < s.heap.size → ¬ m_A s.heap.size a := fun a h => Nat.not_le.mpr h
  obtain ⟨D, cA, hK⟩ := lw_K hts
  obtain ⟨tL, eL, TL⟩ := va_Tof (tm := .static "SortedOffice$Reader" "LEAST" "[I") (ty := .int) (N := 30) (f := fun j => .int (m_least.getD j 0)) (A := m_A s.heap.size) (by decide) (hf _ nf_1.2.2.1) (va_eqt (hf _ nf_1.2.2.2.1)) (fun j hj => va_eqt (hf _ (nf_L j hj))) hA
  obtain ⟨tM, eM, TM⟩ := va_Tof (tm := .static "SortedOffice$Reader" "MOST" "[I") (ty := .int) (N := 30) (f := fun j => .int (m_most.getD j 0)) (A := m_A s.heap.size) (by decide) (hf _ nf_1.2.2.2.2.1) (va_eqt (hf _ nf_1.2.2.2.2.2)) (fun j hj => va_eqt (hf _ (nf_M j hj))) hA
  obtain ⟨adK, adV, hS, hE⟩ := vk_Sof (args := #[Value.ref b]) (s := s) (N := 19) (tm := tmS) (len := m_lens) (byt := m_byts) (A := m_A s.heap.size) (by decide) (fun i hi => hf _ (nf_ex i hi)) (fun i hi => hf _ (nf_co i hi)) (fun i hi => hf _ (nf_ar i hi)) (fun i hi => hf _ (nf_le i hi)) (fun i hi j hj => hf _ (nf_el i hi j hj)) (fun i j hi hj hn => (nf_ne hi hj hn).elim (fun q => Or.inl (hf _ q)) (fun q => Or.inr (hf _ q))) hA
  have hZq := va_Zqof (args := #[Value.ref b]) (A := m_A s.heap.size) (ht1 _ nf_t.2.1) (ht1 _ nf_t.2.2.2.2.2.1) (hf _ nf_1.2.1) hA
  obtain ⟨tF, hZF⟩ : ∃ tF, va_Z "jdk/internal/util/Preconditions" "SIOOBE_FORMATTER" "Ljava/util/function/BiFunction;" .null (m_A s.heap.size) s s.heap ∨ va_Z "jdk/internal/util/Preconditions" "SIOOBE_FORMATTER" "Ljava/util/function/BiFunction;" (.ref tF) (m_A s.heap.size) s s.heap := by
    rcases hZq with h | ⟨t, h⟩
    · exact ⟨0, Or.inl h⟩
    · exact ⟨t, Or.inr h⟩
  obtain ⟨scr, x1, x2, x3, x4, x5⟩ := hX
  have hT : va_T .int b L (fun j => .int (xs j)) (m_A s.heap.size) s s.heap := ⟨scr, x1, x2, x3, Nat.le_of_eq x4.symm, by rw [x4], x5, hA b hbl⟩
  have eX : ∀ i, i < 19 → (if 1000010 + i = 1000000 then b else if 1000010 + i = 1000001 then tL else if 1000010 + i = 1000002 then tM else if 1000010 + i = 1000003 then tF else if 1000010 + i < 1000050 then adK (1000010 + i - 1000010) else adV (1000010 + i - 1000050)) = adK i := fun i hi => by
    rw [if_neg (by omega), if_neg (by omega), if_neg (by omega), if_neg (by omega), if_pos (by omega), Nat.add_sub_cancel_left]
  have eV : ∀ i, (if 1000050 + i = 1000000 then b else if 1000050 + i = 1000001 then tL else if 1000050 + i = 1000002 then tM else if 1000050 + i = 1000003 then tF else if 1000050 + i < 1000050 then adK (1000050 + i - 1000010) else adV (1000050 + i - 1000050)) = adV i := fun i => by
    rw [if_neg (by omega), if_neg (by omega), if_neg (by omega), if_neg (by omega), if_neg (by omega), Nat.add_sub_cancel_left]
  refine ⟨fun i => if i = 1000000 then b else if i = 1000001 then tL else if i = 1000002 then tM else if i = 1000003 then tF else if i < 1000050 then adK (i - 1000010) else adV (i - 1000050), D, cA, ⟨hK, ⟨hT, ⟨va_Zof (ht1 _ nf_t.2.2.1) (ht1 _ nf_t.2.2.2.2.2.2) eL hA, TL⟩, ⟨va_Zof (ht1 _ nf_t.2.2.2.1) (ht1 _ nf_t.2.2.2.2.2.2) eM hA, TM⟩, ⟨va_Zof (ht1 _ nf_t.1) (ht1 _ nf_t.2.2.2.2.1) (va_eqt (hf _ nf_1.1)) hA, hZF⟩, ?_⟩, ?_, ?_⟩, rfl⟩
  · refine ⟨fun i hi => ?_, fun i j hi hj e => ?_⟩
    · dsimp only
      rw [eX i hi, eV i]
      exact hS.1 i hi
    · dsimp only at e
      rw [eX i hi, eX j hj] at e
      exact hS.2 i j hi hj e
  · intro i q hq
    rcases Nat.lt_or_ge i 19 with h | h
    · rw [ms_get i h] at hq
      cases hq
      dsimp only
      rw [eX i h]
      exact vk_R.of (A := #[Value.ref b]) (ht1 _ (nf_st i h)) (hE i h)
    · rw [ms_no h] at hq; exact absurd hq (by simp)
  · exact ⟨fun q hq => va_Nw.of rfl (ht1 _ (nf_nest q hq)), fun C hC => va_AO.of (ht1 _ (nf_ao C hC))⟩
