theorem let_e {v lo hi : Nat} (hv : v < 100) : (bdB v lo hi || decide (nI v = -1)) = bdB v lo hi := by
  rw [decide_eq_false (nI_m1 (by omega)), Bool.or_false]
theorem but_e {v u : Nat} (hv : v < 100) (hu : u < 100) : (bdB v 0 9 || decide (nI v = nI u)) = (bdB v 0 9 || decide (v = u)) := by
  by_cases h : v = u
  · rw [decide_eq_true h, decide_eq_true (show nI v = nI u by rw [h])]
  · rw [decide_eq_false h, decide_eq_false (fun q => h ((nI_eq (by omega) (by omega)).mp q))]
theorem rr_0 {T : Nat → Int32} {len e b : Nat} {st : TS} {x : Nat × Nat} {gh gl : Int32} {D : Nat → Int32} (q0 : e ≤ len) (t0 : tkS T len e = 2) (h : RR 0 st x gh gl D) : RR 0 (stA T len 0 b e st) (s1 x (bdB (vN T len e) 1 6) (2, (tkB T len e))) gh gl (va_up D 0 (nI (vN T len e))) := by
  have q1 : (tkE T len e) ≤ len := (tkE_le (T := T) q0).2
  have v0 := vN_of q0 t0
  obtain ⟨c, nw, hc, hw, d1, d2⟩ := h.2.2.2.1 rfl
  have r := RR_go (l := 0) (b := b) (T := T) (len := len) (e := e) (tb := false) (L := nuA T len 0 e) (gh' := gh) (gl' := gl) (D' := (va_up D 0 (nI (vN T len e)))) h (fun _ => rfl) rfl (wI_0 hc hw (by rw [va_up_ne _ _ (by omega)]; exact d1) (by rw [va_up_ne _ _ (by omega)]; exact d2))
    (fun z e0 f => by
      obtain ⟨ftb, f⟩ := fcL_c f
      have f0 := (fcN_c f).1
      replace f := (fcN_c f).2
      exact ⟨by rw [e0]; rfl, fun _ g => g⟩)
  rw [s1_f] at r
  exact r
theorem rr_1 {T : Nat → Int32} {len e b : Nat} {st : TS} {x : Nat × Nat} {gh gl : Int32} {D : Nat → Int32} (q0 : e ≤ len) (t0 : tkS T len e = 2) (t1 : tkS T len (tkE T len e) = 2) (h : RR 0 st x gh gl D) : RR 0 (stA T len 1 b e st) (s1 (s1 x (bdB (vN T len e) 0 5) (2, (tkB T len e))) (bdB (vN T len (tkE T len e)) 0 50) (2, (tkB T len (tkE T len e)))) (mxI gh (vN T len e)) gl (if ((bdB (vN T len e) 0 5) || (bdB (vN T len (tkE T len e)) 0 50)) = true then D else va_up D (3 + (vN T len e)) (nI (vN T len (tkE T len e)))) := by
  have q1 : (tkE T len e) ≤ len := (tkE_le (T := T) q0).2
  have v0 := vN_of q0 t0
  have q2 : (tkE T len (tkE T len e)) ≤ len := (tkE_le (T := T) q1).2
  have v1 := vN_of q1 t1
  obtain ⟨c, nw, hc, hw, d1, d2⟩ := h.2.2.2.1 rfl
  have r := RR_go (l := 1) (b := b) (T := T) (len := len) (e := e) (tb := false) (L := nuA T len 1 e) (gh' := (mxI gh (vN T len e))) (gl' := gl) (D' := (if ((bdB (vN T len e) 0 5) || (bdB (vN T len (tkE T len e)) 0 50)) = true then D else va_up D (3 + (vN T len e)) (nI (vN T len (tkE T len e))))) h (fun _ => rfl) rfl (by
      by_cases bb : ((bdB (vN T len e) 0 5) || (bdB (vN T len (tkE T len e)) 0 50)) = true
      · rw [if_pos bb]; exact wI_0 hc hw d1 d2
      · rw [if_neg bb]
        exact wI_0 hc hw (by rw [va_up_ne _ _ (by omega)]; exact d1) (by rw [va_up_ne _ _ (by omega)]; exact d2))
    (fun z e0 f => by
      obtain ⟨ftb, f⟩ := fcL_c f
      have f0 := (fcN_c f).1
      replace f := (fcN_c f).2
      have f1 := (fcN_c f).1
      replace f := (fcN_c f).2
      rw [if_neg (show ¬ ((bdB (vN T len e) 0 5) || (bdB (vN T len (tkE T len e)) 0 50)) = true by rw [Bool.or_eq_true]; exact fun q => q.elim f0 f1)]
      exact ⟨by rw [e0]; rfl, fun _ g => ⟨by rw [g.1]; rfl, g.2⟩⟩)
  rw [s1_f] at r
  exact r
theorem rr_2 {T : Nat → Int32} {len e b : Nat} {st : TS} {x : Nat × Nat} {gh gl : Int32} {D : Nat → Int32} (q0 : e ≤ len) (t0 : tkS T len e = 2) (t1 : ¬ kI T len (tkE T len e) = -1) (t2 : tkS T len (tkE T len (tkE T len e)) = 2) {c nw : Nat} (hc : c ≤ 10) (hw : nw ≤ 8) (d1 : D 1 = nI c) (d2 : D 2 = nI nw) (h : RR 0 st x gh gl D) : RR 0 (stA T len 2 b e st) (s1 (s1 (s1 x (decide (D 1 = nI 10)) (3, b)) (bdB (vN T len e) 0 5) (2, (tkB T len e))) (bdB (vN T len (tkE T len (tkE T len e))) 1 9) (2, (tkB T len (tkE T len (tkE T len e))))) (mxI gh (vN T len e)) gl (if c < 10 then ltU D c (nI (vN T len e)) (nI (kN T len (tkE T len e))) (nI (vN T len (tkE T len (tkE T len e)))) else D) := by
  have q1 : (tkE T len e) ≤ len := (tkE_le (T := T) q0).2
  have v0 := vN_of q0 t0
  have q2 : (tkE T len (tkE T len e)) ≤ len := (tkE_le (T := T) q1).2
  have w1 := kN_of t1
  have q3 : (tkE T len (tkE T len (tkE T len e))) ≤ len := (tkE_le (T := T) q2).2
  have v2 := vN_of q2 t2
  have r := RR_go (l := 2) (b := b) (T := T) (len := len) (e := e) (tb := (decide (D 1 = nI 10))) (L := nuA T len 2 e) (gh' := (mxI gh (vN T len e))) (gl' := gl) (D' := (if c < 10 then ltU D c (nI (vN T len e)) (nI (kN T len (tkE T len e))) (nI (vN T len (tkE T len (tkE T len e)))) else D)) h (fun z => by rw [(h.2.2.1 z).1]; rfl) rfl (by
      by_cases hc9 : c < 10
      · rw [if_pos hc9]
        exact wI_0 (c := c + 1) (nw := nw) (by omega) hw (va_up_self _ _ _) (by unfold ltU; rw [va_up_ne _ _ (by omega), va_up_ne _ _ (by omega), va_up_ne _ _ (by omega), va_up_ne _ _ (by omega)]; exact d2)
      · rw [if_neg hc9]; exact wI_0 hc hw d1 d2)
    (fun z e0 f => by
      obtain ⟨ftb, f⟩ := fcL_c f
      have f0 := (fcN_c f).1
      replace f := (fcN_c f).2
      have f1 := (fcN_c f).1
      replace f := (fcN_c f).2
      have hc9 : c < 10 := by
        rcases Nat.lt_or_ge c 10 with q | q
        · exact q
        · exact absurd (decide_eq_true (show st.D 1 = nI 10 by rw [← e0, d1]; congr 1; omega)) ftb
      rw [if_pos hc9]
      refine ⟨?_, fun _ g => ⟨by rw [g.1]; rfl, g.2⟩⟩
      show _ = ltU st.D (st.D 1).toNatClampNeg (nI (vN T len e)) (nI (kN T len (tkE T len e))) (nI (vN T len (tkE T len (tkE T len e))))
      rw [← e0, d1, nI_clamp (by omega)])
  exact r
theorem tb_sw {p q : Prop} [Decidable p] [Decidable q] : (decide p && decide q) = decide (q ∧ p) := by
  by_cases h1 : p
  · by_cases h2 : q
    · rw [decide_eq_true h1, decide_eq_true h2, decide_eq_true ⟨h2, h1⟩]; rfl
    · rw [decide_eq_false h2, decide_eq_false (fun r : q ∧ p => h2 r.1), Bool.and_false]
  · rw [decide_eq_false h1, decide_eq_false (fun r : q ∧ p => h1 r.2), Bool.false_and]
theorem rr_3 {T : Nat → Int32} {len e b : Nat} {st : TS} {x : Nat × Nat} {gh gl : Int32} {D : Nat → Int32} (q0 : e ≤ len) (t0 : ¬ kI T len e = -1) (t1 : ¬ kI T len (tkE T len e) = -1) (t2 : tkS T len (tkE T len (tkE T len e)) = 2) {c nw : Nat} (hc : c ≤ 10) (hw : nw ≤ 8) (d1 : D 1 = nI c) (d2 : D 2 = nI nw) (h : RR 0 st x gh gl D) : RR 0 (stA T len 3 b e st) (s1 (s1 x (decide (D ((59 + (4 * (kN T len e))) + (kN T len (tkE T len e))) = -1) && decide (D 2 = nI 8)) (3, b)) (bdB (vN T len (tkE T len (tkE T len e))) 0 9) (2, (tkB T len (tkE T len (tkE T len e))))) gh gl (if D ((59 + (4 * (kN T len e))) + (kN T len (tkE T len e))) = -1 then (if nw < 8 then va_up (va_up D ((59 + (4 * (kN T len e))) + (kN T len (tkE T len e))) (nI (vN T len (tkE T len (tkE T len e))))) 2 (nI (nw + 1)) else D) else va_up (va_up D ((59 + (4 * (kN T len e))) + (kN T len (tkE T len e))) (nI (vN T len (tkE T len (tkE T len e))))) 2 (nI (nw + 0))) := by
  have q1 : (tkE T len e) ≤ len := (tkE_le (T := T) q0).2
  have w0 := kN_of t0
  have q2 : (tkE T len (tkE T len e)) ≤ len := (tkE_le (T := T) q1).2
  have w1 := kN_of t1
  have q3 : (tkE T len (tkE T len (tkE T len e))) ≤ len := (tkE_le (T := T) q2).2
  have v2 := vN_of q2 t2
  have el : ((59 + (4 * (kN T len e))) + (kN T len (tkE T len e))) = 59 + (4 * (kN T len e) + (kN T len (tkE T len e))) := by omega
  have r := RR_go (l := 3) (b := b) (T := T) (len := len) (e := e) (tb := (decide (D ((59 + (4 * (kN T len e))) + (kN T len (tkE T len e))) = -1) && decide (D 2 = nI 8))) (L := nuA T len 3 e) (gh' := gh) (gl' := gl) (D' := (if D ((59 + (4 * (kN T len e))) + (kN T len (tkE T len e))) = -1 then (if nw < 8 then va_up (va_up D ((59 + (4 * (kN T len e))) + (kN T len (tkE T len e))) (nI (vN T len (tkE T len (tkE T len e))))) 2 (nI (nw + 1)) else D) else va_up (va_up D ((59 + (4 * (kN T len e))) + (kN T len (tkE T len e))) (nI (vN T len (tkE T len (tkE T len e))))) 2 (nI (nw + 0)))) h (fun z => by rw [el, (h.2.2.1 z).1]; exact tb_sw) rfl (by
      by_cases nn : D ((59 + (4 * (kN T len e))) + (kN T len (tkE T len e))) = -1
      · rw [if_pos nn]
        by_cases h8 : nw < 8
        · rw [if_pos h8]
          exact wI_0 (nw := nw + 1) hc (by omega) (by rw [va_up_ne _ _ (by omega), va_up_ne _ _ (by omega)]; exact d1) (va_up_self _ _ _)
        · rw [if_neg h8]; exact wI_0 hc hw d1 d2
      · rw [if_neg nn]
        exact wI_0 (nw := nw + 0) hc hw (by rw [va_up_ne _ _ (by omega), va_up_ne _ _ (by omega)]; exact d1) (va_up_self _ _ _))
    (fun z e0 f => by
      obtain ⟨ftb, f⟩ := fcL_c f
      have f0 := (fcN_c f).1
      replace f := (fcN_c f).2
      refine ⟨?_, fun _ g => g⟩
      show _ = lawU st.D (4 * (kN T len e) + (kN T len (tkE T len e))) (nI (vN T len (tkE T len (tkE T len e))))
      unfold lawU
      rw [el, ← e0]
      by_cases nn : D (59 + (4 * (kN T len e) + (kN T len (tkE T len e)))) = -1
      · have h8 : nw < 8 := by
          rcases Nat.lt_or_ge nw 8 with q | q
          · exact q
          · exact absurd (decide_eq_true (show st.D 2 = nI 8 ∧ st.D (59 + (4 * (kN T len e) + (kN T len (tkE T len e)))) = -1 by rw [← e0]; exact ⟨by rw [d2]; congr 1; omega, nn⟩)) ftb
        rw [if_pos nn, if_pos nn, if_pos h8, d2]
        rw [show nI nw + nI 1 = nI (nw + 1) from (Int32.ofNat_add nw 1).symm]
      · rw [if_neg nn, if_neg nn]
        exact va_ui2 (by rw [va_up_ne _ _ (by omega)]; exact d2))
  exact r
theorem rr_4 {T : Nat → Int32} {len e b : Nat} {st : TS} {x : Nat × Nat} {gh gl : Int32} {D : Nat → Int32} (q0 : e ≤ len) (t0 : tkS T len e = 2) (t1 : tkS T len (tkE T len e) = 2) (t2 : tkS T len (tkE T len (tkE T len e)) = 2) (h : RR 0 st x gh gl D) : RR 0 (stA T len 4 b e st) (s1 (s1 (s1 x (bdB (vN T len e) 0 9 || decide (nI (vN T len e) = -1)) (2, (tkB T len e))) (bdB (vN T len (tkE T len e)) 0 9 || decide (nI (vN T len (tkE T len e)) = nI (vN T len e))) (2, (tkB T len (tkE T len e)))) (bdB (vN T len (tkE T len (tkE T len e))) 0 3) (2, (tkB T len (tkE T len (tkE T len e))))) gh (mxI (mxI gl (vN T len e)) (vN T len (tkE T len e))) (if ((bdB (vN T len e) 0 9 || decide (nI (vN T len e) = -1)) || (bdB (vN T len (tkE T len e)) 0 9 || decide (nI (vN T len (tkE T len e)) = nI (vN T len e))) || (bdB (vN T len (tkE T len (tkE T len e))) 0 3)) = true then D else va_up (va_up D (39 + (vN T len e)) (nI (vN T len (tkE T len e)))) (49 + (vN T len e)) (nI (vN T len (tkE T len (tkE T len e))))) := by
  have q1 : (tkE T len e) ≤ len := (tkE_le (T := T) q0).2
  have v0 := vN_of q0 t0
  have q2 : (tkE T len (tkE T len e)) ≤ len := (tkE_le (T := T) q1).2
  have v1 := vN_of q1 t1
  have q3 : (tkE T len (tkE T len (tkE T len e))) ≤ len := (tkE_le (T := T) q2).2
  have v2 := vN_of q2 t2
  obtain ⟨c, nw, hc, hw, d1, d2⟩ := h.2.2.2.1 rfl
  have r := RR_go (l := 4) (b := b) (T := T) (len := len) (e := e) (tb := false) (L := nuA T len 4 e) (gh' := gh) (gl' := (mxI (mxI gl (vN T len e)) (vN T len (tkE T len e)))) (D' := (if ((bdB (vN T len e) 0 9 || decide (nI (vN T len e) = -1)) || (bdB (vN T len (tkE T len e)) 0 9 || decide (nI (vN T len (tkE T len e)) = nI (vN T len e))) || (bdB (vN T len (tkE T len (tkE T len e))) 0 3)) = true then D else va_up (va_up D (39 + (vN T len e)) (nI (vN T len (tkE T len e)))) (49 + (vN T len e)) (nI (vN T len (tkE T len (tkE T len e)))))) h (fun _ => rfl) rfl (by
      by_cases bb : ((bdB (vN T len e) 0 9 || decide (nI (vN T len e) = -1)) || (bdB (vN T len (tkE T len e)) 0 9 || decide (nI (vN T len (tkE T len e)) = nI (vN T len e))) || (bdB (vN T len (tkE T len (tkE T len e))) 0 3)) = true
      · rw [if_pos bb]; exact wI_0 hc hw d1 d2
      · rw [if_neg bb]
        exact wI_0 hc hw (by rw [va_up_ne _ _ (by omega), va_up_ne _ _ (by omega)]; exact d1) (by rw [va_up_ne _ _ (by omega), va_up_ne _ _ (by omega)]; exact d2))
    (fun z e0 f => by
      obtain ⟨ftb, f⟩ := fcL_c f
      have f0 := (fcN_c f).1
      replace f := (fcN_c f).2
      have f1 := (fcN_c f).1
      replace f := (fcN_c f).2
      have f2 := (fcN_c f).1
      replace f := (fcN_c f).2
      rw [if_neg (show ¬ ((bdB (vN T len e) 0 9 || decide (nI (vN T len e) = -1)) || (bdB (vN T len (tkE T len e)) 0 9 || decide (nI (vN T len (tkE T len e)) = nI (vN T len e))) || (bdB (vN T len (tkE T len (tkE T len e))) 0 3)) = true by rw [let_e v0.1, but_e v1.1 v0.1, Bool.or_eq_true, Bool.or_eq_true]; exact fun q => q.elim (fun q => q.elim f0 f1) f2)]
      exact ⟨by rw [e0]; rfl, fun _ g => ⟨g.1, by rw [g.2]; rfl⟩⟩)
  rw [let_e v0.1, but_e v1.1 v0.1]
  rw [let_e v0.1, but_e v1.1 v0.1] at r
  rw [s1_f] at r
  exact r
theorem rr_5 {T : Nat → Int32} {len e b : Nat} {st : TS} {x : Nat × Nat} {gh gl : Int32} {D : Nat → Int32} (q0 : e ≤ len) (t0 : tkS T len e = 2) {c : Nat} (hc : c ≤ 40) (d0 : D 0 = nI c) (h : RR 1 st x gh gl D) : RR 1 (stA T len 5 b e st) (s1 (s1 x (decide (D 0 = nI 40)) (3, b)) (bdB (vN T len e) 0 9 || decide (nI (vN T len e) = -1)) (2, (tkB T len e))) gh (mxI gl (vN T len e)) (if c < 40 then wkU D c (nI 0) (nI (vN T len e)) (-1) else D) := by
  have q1 : (tkE T len e) ≤ len := (tkE_le (T := T) q0).2
  have v0 := vN_of q0 t0
  have r := RR_go (l := 5) (b := b) (T := T) (len := len) (e := e) (tb := (decide (D 0 = nI 40))) (L := nuA T len 5 e) (gh' := gh) (gl' := (mxI gl (vN T len e))) (D' := (if c < 40 then wkU D c (nI 0) (nI (vN T len e)) (-1) else D)) h (fun z => by rw [(h.2.2.1 z).1]; rfl) rfl (by
      by_cases hc9 : c < 40
      · rw [if_pos hc9]; exact wI_1 (c := c + 1) (by omega) (va_up_self _ _ _)
      · rw [if_neg hc9]; exact wI_1 hc d0)
    (fun z e0 f => by
      obtain ⟨ftb, f⟩ := fcL_c f
      have f0 := (fcN_c f).1
      replace f := (fcN_c f).2
      have hc9 : c < 40 := by
        rcases Nat.lt_or_ge c 40 with q | q
        · exact q
        · exact absurd (decide_eq_true (show st.D 0 = nI 40 by rw [← e0, d0]; congr 1; omega)) ftb
      rw [if_pos hc9]
      refine ⟨?_, fun q => absurd q (by decide)⟩
      show _ = wkU st.D (st.D 0).toNatClampNeg (nI 0) (nI (vN T len e)) (-1)
      rw [← e0, d0, nI_clamp (by omega)])
  rw [let_e v0.1]
  exact r
theorem rr_7 {T : Nat → Int32} {len e b : Nat} {st : TS} {x : Nat × Nat} {gh gl : Int32} {D : Nat → Int32} (q0 : e ≤ len) (t0 : tkS T len e = 2) {c : Nat} (hc : c ≤ 40) (d0 : D 0 = nI c) (h : RR 1 st x gh gl D) : RR 1 (stA T len 7 b e st) (s1 (s1 x (decide (D 0 = nI 40)) (3, b)) (bdB (vN T len e) 0 9 || decide (nI (vN T len e) = -1)) (2, (tkB T len e))) gh (mxI gl (vN T len e)) (if c < 40 then wkU D c (nI 2) (nI (vN T len e)) (-1) else D) := by
  have q1 : (tkE T len e) ≤ len := (tkE_le (T := T) q0).2
  have v0 := vN_of q0 t0
  have r := RR_go (l := 7) (b := b) (T := T) (len := len) (e := e) (tb := (decide (D 0 = nI 40))) (L := nuA T len 7 e) (gh' := gh) (gl' := (mxI gl (vN T len e))) (D' := (if c < 40 then wkU D c (nI 2) (nI (vN T len e)) (-1) else D)) h (fun z => by rw [(h.2.2.1 z).1]; rfl) rfl (by
      by_cases hc9 : c < 40
      · rw [if_pos hc9]; exact wI_1 (c := c + 1) (by omega) (va_up_self _ _ _)
      · rw [if_neg hc9]; exact wI_1 hc d0)
    (fun z e0 f => by
      obtain ⟨ftb, f⟩ := fcL_c f
      have f0 := (fcN_c f).1
      replace f := (fcN_c f).2
      have hc9 : c < 40 := by
        rcases Nat.lt_or_ge c 40 with q | q
        · exact q
        · exact absurd (decide_eq_true (show st.D 0 = nI 40 by rw [← e0, d0]; congr 1; omega)) ftb
      rw [if_pos hc9]
      refine ⟨?_, fun q => absurd q (by decide)⟩
      show _ = wkU st.D (st.D 0).toNatClampNeg (nI 2) (nI (vN T len e)) (-1)
      rw [← e0, d0, nI_clamp (by omega)])
  rw [let_e v0.1]
  exact r
theorem rr_6 {T : Nat → Int32} {len e b : Nat} {st : TS} {x : Nat × Nat} {gh gl : Int32} {D : Nat → Int32} (q0 : e ≤ len) (t0 : tkS T len e = 2) (t1 : tkS T len (tkE T len e) = 2) {c : Nat} (hc : c ≤ 40) (d0 : D 0 = nI c) (h : RR 1 st x gh gl D) : RR 1 (stA T len 6 b e st) (s1 (s1 (s1 x (decide (D 0 = nI 40)) (3, b)) (bdB (vN T len e) 0 9 || decide (nI (vN T len e) = -1)) (2, (tkB T len e))) (bdB (vN T len (tkE T len e)) 0 5) (2, (tkB T len (tkE T len e)))) (mxI gh (vN T len (tkE T len e))) (mxI gl (vN T len e)) (if c < 40 then wkU D c (nI 1) (nI (vN T len e)) (nI (vN T len (tkE T len e))) else D) := by
  have q1 : (tkE T len e) ≤ len := (tkE_le (T := T) q0).2
  have v0 := vN_of q0 t0
  have q2 : (tkE T len (tkE T len e)) ≤ len := (tkE_le (T := T) q1).2
  have v1 := vN_of q1 t1
  have r := RR_go (l := 6) (b := b) (T := T) (len := len) (e := e) (tb := (decide (D 0 = nI 40))) (L := nuA T len 6 e) (gh' := (mxI gh (vN T len (tkE T len e)))) (gl' := (mxI gl (vN T len e))) (D' := (if c < 40 then wkU D c (nI 1) (nI (vN T len e)) (nI (vN T len (tkE T len e))) else D)) h (fun z => by rw [(h.2.2.1 z).1]; rfl) rfl (by
      by_cases hc9 : c < 40
      · rw [if_pos hc9]; exact wI_1 (c := c + 1) (by omega) (va_up_self _ _ _)
      · rw [if_neg hc9]; exact wI_1 hc d0)
    (fun z e0 f => by
      obtain ⟨ftb, f⟩ := fcL_c f
      have f0 := (fcN_c f).1
      replace f := (fcN_c f).2
      have f1 := (fcN_c f).1
      replace f := (fcN_c f).2
      have hc9 : c < 40 := by
        rcases Nat.lt_or_ge c 40 with q | q
        · exact q
        · exact absurd (decide_eq_true (show st.D 0 = nI 40 by rw [← e0, d0]; congr 1; omega)) ftb
      rw [if_pos hc9]
      refine ⟨?_, fun q => absurd q (by decide)⟩
      show _ = wkU st.D (st.D 0).toNatClampNeg (nI 1) (nI (vN T len e)) (nI (vN T len (tkE T len e)))
      rw [← e0, d0, nI_clamp (by omega)])
  rw [let_e v0.1]
  exact r
theorem rr_8 {T : Nat → Int32} {len e b : Nat} {st : TS} {x : Nat × Nat} {gh gl : Int32} {D : Nat → Int32} (q0 : e ≤ len)  {c : Nat} (hc : c ≤ 40) (d0 : D 0 = nI c) (h : RR 1 st x gh gl D) : RR 1 (stA T len 8 b e st) (s1 x (decide (D 0 = nI 40)) (3, b)) gh gl (if c < 40 then wkU D c (nI 3) (-1) (-1) else D) := by
  have r := RR_go (l := 8) (b := b) (T := T) (len := len) (e := e) (tb := (decide (D 0 = nI 40))) (L := nuA T len 8 e) (gh' := gh) (gl' := gl) (D' := (if c < 40 then wkU D c (nI 3) (-1) (-1) else D)) h (fun z => by rw [(h.2.2.1 z).1]; rfl) rfl (by
      by_cases hc9 : c < 40
      · rw [if_pos hc9]; exact wI_1 (c := c + 1) (by omega) (va_up_self _ _ _)
      · rw [if_neg hc9]; exact wI_1 hc d0)
    (fun z e0 f => by
      obtain ⟨ftb, f⟩ := fcL_c f
      have hc9 : c < 40 := by
        rcases Nat.lt_or_ge c 40 with q | q
        · exact q
        · exact absurd (decide_eq_true (show st.D 0 = nI 40 by rw [← e0, d0]; congr 1; omega)) ftb
      rw [if_pos hc9]
      refine ⟨?_, fun q => absurd q (by decide)⟩
      show _ = wkU st.D (st.D 0).toNatClampNeg (nI 3) (-1) (-1)
      rw [← e0, d0, nI_clamp (by omega)])
  exact r
theorem rr_9 {T : Nat → Int32} {len e b : Nat} {st : TS} {x : Nat × Nat} {gh gl : Int32} {D : Nat → Int32} (q0 : e ≤ len) (t0 : tkS T len e = 2) (t1 : tkS T len (tkE T len e) = 2) {c : Nat} (hc : c ≤ 8) (d0 : D 0 = nI c) (h : RR 2 st x gh gl D) : RR 2 (stA T len 9 b e st) (s1 (s1 (s1 x (decide (D 0 = nI 8)) (3, b)) (bdB (vN T len e) 0 5) (2, (tkB T len e))) (bdB (vN T len (tkE T len e)) 0 99) (2, (tkB T len (tkE T len e)))) (mxI gh (vN T len e)) gl (if c < 8 then lgU D c (nI (vN T len e)) (nI (vN T len (tkE T len e))) else D) := by
  have q1 : (tkE T len e) ≤ len := (tkE_le (T := T) q0).2
  have v0 := vN_of q0 t0
  have q2 : (tkE T len (tkE T len e)) ≤ len := (tkE_le (T := T) q1).2
  have v1 := vN_of q1 t1
  have r := RR_go (l := 9) (b := b) (T := T) (len := len) (e := e) (tb := (decide (D 0 = nI 8))) (L := nuA T len 9 e) (gh' := (mxI gh (vN T len e))) (gl' := gl) (D' := (if c < 8 then lgU D c (nI (vN T len e)) (nI (vN T len (tkE T len e))) else D)) h (fun z => by rw [(h.2.2.1 z).1]; rfl) rfl (by
      by_cases hc9 : c < 8
      · rw [if_pos hc9]; exact wI_2 (c := c + 1) (by omega) (va_up_self _ _ _)
      · rw [if_neg hc9]; exact wI_2 hc d0)
    (fun z e0 f => by
      obtain ⟨ftb, f⟩ := fcL_c f
      have f0 := (fcN_c f).1
      replace f := (fcN_c f).2
      have f1 := (fcN_c f).1
      replace f := (fcN_c f).2
      have hc9 : c < 8 := by
        rcases Nat.lt_or_ge c 8 with q | q
        · exact q
        · exact absurd (decide_eq_true (show st.D 0 = nI 8 by rw [← e0, d0]; congr 1; omega)) ftb
      rw [if_pos hc9]
      refine ⟨?_, fun q => absurd q (by decide)⟩
      show _ = lgU st.D (st.D 0).toNatClampNeg (nI (vN T len e)) (nI (vN T len (tkE T len e)))
      rw [← e0, d0, nI_clamp (by omega)])
  exact r
