theorem a_fit {S : Nat × (Nat → Int32)} {d : Nat} {Y : mY} {n0 nf : Nat} {Q : Option Value → mI → mJ → mR → Prop} {pc : Nat} {lv : List (Nat × Value)} {st : List Value} {I : mI} {J : mJ} {R : mR} {n : Nat} (k : m_fit I → AW S d Y n0 nf Q pc lv st I J R n) : AW S d Y n0 nf Q pc lv st I J R n := fun p l e s m args below meth c b X D cA hF H locs lsr hN => k hN.1.2.2.2 p l e s m args below meth c b X D cA hF H locs lsr hN
theorem fit_by {I : mI} {len : Nat} (h : m_fit I) : byT (I 96) len := fun j _ => m_fits8 (h 96 (by rw [ly_96]) j)
theorem st_run {S : Nat × (Nat → Int32)} {YC YR : mY} {as : List Value} {I I1 I2 : mI} {J J1 J2 : mJ} {R R1 R2 : mR} {n n1 : Nat} {v : Value} (hc : RUN S 40 YC (.ref 0 :: as) I J R n (some v) I1 J1 R1 n1) (hm : RUN S 40 YR (.ref 95 :: as) I1 J1 R1 n1 (some v) I2 J2 R2 n1) (h1 : n ≤ n1) (h2 : n1 ≤ 236) (hI : INV I2 R2 n1) (hv : retT YC.2.2.2 v := by first | exact rt_i | exact rt_l) : STEP S YC YR as I J R n := by
  refine ⟨v, n1, hv, h1, h2, a_wk hc (fun w I' J' R' q => ?_)⟩
  obtain ⟨q1, q2, q3, q4⟩ := q
  subst q2; subst q3; subst q4
  refine ⟨q1, a_wk hm (fun w2 I3 J3 R3 q => ?_)⟩
  obtain ⟨p1, p2, p3, p4⟩ := q
  subst p2; subst p3; subst p4
  exact ⟨p1, hI⟩
/-- the tape and the fault changed, nothing else -/
theorem TD_tape {I I' : mI} (h : TD I 1 0) {len : Nat} (h6 : len ≤ 600) (a : I' 1 1 = nI len) (b : I' 97 0 = nI len) (c : ∀ j, j < len → I' 2 j = I' 96 j) (f : I' 1 2 = I' 98 0) (p : I' 1 3 = I' 99 0) (r : ∀ x, 3 ≤ x → x < 39 → I' x = I x) (m : ∀ x, 100 ≤ x → x ≤ 103 → I' x = I x) : TD I' 1 0 := by
  obtain ⟨_, _, b4, b5, b6⟩ := h
  refine ⟨⟨len, h6, a, b, fun j hj => by rw [show 600 * 0 + j = j by omega]; exact c j hj⟩, ⟨f, p⟩, TDo_cg b4 (by rw [r 3 (by omega) (by omega)]) (by rw [m 100 (by omega) (by omega)]) (fun k hk q j hq _ => by rw [r _ (by omega) (by omega)]) (fun j _ => by rw [m 101 (by omega) (by omega)]), TDw_cg b5 (by rw [r 3 (by omega) (by omega)]) (by rw [m 100 (by omega) (by omega)]) (fun k hk q j hq _ _ => by rw [r _ (by omega) (by omega)]) (fun j _ => by rw [m 102 (by omega) (by omega)]), TDg_cg b6 (by rw [r 3 (by omega) (by omega)]) (by rw [m 100 (by omega) (by omega)]) (fun k hk q j hq _ _ => by rw [r _ (by omega) (by omega)]) (fun j _ => by rw [m 103 (by omega) (by omega)])⟩
theorem st_end {S : Nat × (Nat → Int32)} {I : mI} {J : mJ} {R : mR} {n : Nat} (h : INV I R n) (x : Int32) : STEP S YS_end YM_end [.int x] I J R n := by
  have hn := h.n1.1
  have hR := h.1
  have h68 := h.2.1
  obtain ⟨len, l6, a, b, c⟩ := h.2.2.1.1
  obtain ⟨f, p⟩ := h.2.2.1.2.1
  have a : I 1 1 = nI len := a
  have b : I 97 0 = nI len := b
  rcases rg (x := x) (a := 0) (c := len) (by omega) (by omega) with ⟨d, e⟩ | ⟨w, _, hw, rfl, d⟩
  · refine st_q (v := .int (-1)) h (q_run2 (I' := I) (R' := R) ?_ KP.refl (KF.refl hR)) (fun K J' R' kp hR' => q_run2 (I' := cdI K) (R' := R') ?_ kp_cd (KF.refl hR'))
    · have q1 : gf_S_end x I = I := by
        unfold gf_S_end
        rw [a]
        by_cases c0 : x < 0
        · exact if_pos c0
        · rw [if_neg c0, if_neg (by rcases e with e | e; exact absurd e c0; rw [Int32.le_iff_toInt_le]; rw [Int32.lt_iff_toInt_lt] at e; omega)]
      have q2 : f_S_end x I = -1 := by
        unfold f_S_end
        rw [a]
        by_cases c0 : x < 0
        · exact if_pos c0
        · rw [if_neg c0, if_neg (by rcases e with e | e; exact absurd e c0; rw [Int32.le_iff_toInt_le]; rw [Int32.lt_iff_toInt_lt] at e; omega)]
      have r := c_S_end (S := S) (d := 40) (I := I) (J := J) (x := x) hn hR
      rw [q1, q2] at r
      exact r
    · have e0 : (m_up K 95 0 0) 97 0 = nI len := by rw [m_up_ne (by decide), kp.1 97 (by omega)]; exact b
      have q1 : gf_M_end x K = cdI K := by unfold gf_M_end; rw [e0, if_pos (show f_in x 0 (nI len) = 0 from d)]
      have q2 : f_M_end x K = -1 := by unfold f_M_end; rw [e0, if_pos (show f_in x 0 (nI len) = 0 from d)]
      have r := c_M_end (S := S) (d := 39) (I := K) (J := J') (x := x) hn hR'
      rw [q1, q2] at r
      exact r
  · have q1 : gf_S_end (nI w) I = m_up I 1 1 (nI w) := by
      unfold gf_S_end
      rw [a, if_neg (nI_pos (by omega)), if_pos ((nI_le' (by omega) (by omega)).mpr hw)]
    have q2 : f_S_end (nI w) I = nI w := by
      unfold f_S_end
      rw [a, if_neg (nI_pos (by omega)), if_pos ((nI_le' (by omega) (by omega)).mpr hw)]
    have r := c_S_end (S := S) (d := 40) (I := I) (J := J) (x := nI w) hn hR
    rw [q1, q2] at r
    have e0 : (m_up (m_up I 1 1 (nI w)) 95 0 0) 97 0 = nI len := by rw [m_up_ne (by decide), m_up_ne (by decide)]; exact b
    have nz : ¬ f_in (nI w) 0 (nI len) = 0 := by rw [show f_in (nI w) 0 (nI len) = 1 from d]; decide
    have p1 : gf_M_end (nI w) (m_up I 1 1 (nI w)) = m_up (m_up (m_up I 1 1 (nI w)) 95 0 0) 97 0 (nI w) := by unfold gf_M_end; rw [e0, if_neg nz]
    have p2 : f_M_end (nI w) (m_up I 1 1 (nI w)) = nI w := by unfold f_M_end; rw [e0, if_neg nz]
    have r2 := c_M_end (S := S) (d := 39) (J := J) (I := m_up I 1 1 (nI w)) (x := nI w) hn hR
    rw [p1, p2] at r2
    have o : ∀ y, y ≠ 1 → y ≠ 95 → y ≠ 97 → (m_up (m_up (m_up I 1 1 (nI w)) 95 0 0) 97 0 (nI w)) y = I y := fun y h1 h2 h3 => by rw [m_up_ne h3, m_up_ne h2, m_up_ne h1]
    have o1 : (m_up (m_up (m_up I 1 1 (nI w)) 95 0 0) 97 0 (nI w)) 1 = va_up (I 1) 1 (nI w) := by rw [m_up_ne (by decide), m_up_ne (by decide), m_up_eq]
    have o97 : (m_up (m_up (m_up I 1 1 (nI w)) 95 0 0) 97 0 (nI w)) 97 = va_up (I 97) 0 (nI w) := by rw [m_up_eq, m_up_ne (by decide), m_up_ne (by decide)]
    refine st_run r r2 (Nat.le_refl _) h.n1.2 (INV_mk h hR rfl (fun _ _ => rfl) (fun j _ => by rw [o 68 (by decide) (by decide) (by decide)]) (o 121 (by decide) (by decide) (by decide)) (fun y hy => o y (by omega) (by omega) (by omega)) (fun s h1 h2 => ?_) (TD_tape h.2.2.1 (len := w) (by omega) (by rw [o1, vup_eq]) (by rw [o97, vup_eq]) (fun j hj => ?_) ?_ ?_ (fun y h1 h2 => o y (by omega) (by omega) (by omega)) (fun y h1 h2 => o y (by omega) (by omega) (by omega))))
    · refine ⟨by rw [o97, vup_ne (by omega)], by rw [o 98 (by decide) (by decide) (by decide)], by rw [o 99 (by decide) (by decide) (by decide)], fun j _ => by rw [o 96 (by decide) (by decide) (by decide)], fun j _ => by rw [o 100 (by decide) (by decide) (by decide)], fun j _ => by rw [o 101 (by decide) (by decide) (by decide)], fun j _ => by rw [o 102 (by decide) (by decide) (by decide)], fun j _ => by rw [o 103 (by decide) (by decide) (by decide)]⟩
    · rw [o 2 (by decide) (by decide) (by decide), o 96 (by decide) (by decide) (by decide)]
      have := c j (by omega)
      rw [show 600 * 0 + j = j by omega] at this
      exact this
    · rw [o1, vup_ne (by decide), o 98 (by decide) (by decide) (by decide)]; exact f
    · rw [o1, vup_ne (by decide), o 99 (by decide) (by decide) (by decide)]; exact p
theorem by_eq {v s : Int32} (hs : s = 24 ∨ s = 16 ∨ s = 8 ∨ s = 0) : byC v s = byR v s := by
  unfold byC byR
  have key : ((v.toUInt32 >>> (Int32.toUInt32 s &&& Int32.toUInt32 31)).toInt32).toInt8 = (v >>> (s &&& 31)).toInt8 := by
    apply Int8.toBitVec_inj.mp
    apply BitVec.eq_of_getLsbD_eq
    intro i hi
    rcases hs with rfl | rfl | rfl | rfl
    · rw [Int32.toBitVec_toInt8, Int32.toBitVec_toInt8, BitVec.getLsbD_signExtend, BitVec.getLsbD_signExtend, UInt32.toBitVec_toInt32, UInt32.toBitVec_shiftRight, Int32.toBitVec_shiftRight, if_pos (by omega), if_pos (by omega)]
      congr 1
      show (v.toBitVec >>> (24 : Nat)).getLsbD i = (v.toBitVec.sshiftRight 24).getLsbD i
      rw [BitVec.getLsbD_ushiftRight, BitVec.getLsbD_sshiftRight, decide_eq_false (show ¬ 32 ≤ i by omega), if_pos (by omega)]; rfl
    · rw [Int32.toBitVec_toInt8, Int32.toBitVec_toInt8, BitVec.getLsbD_signExtend, BitVec.getLsbD_signExtend, UInt32.toBitVec_toInt32, UInt32.toBitVec_shiftRight, Int32.toBitVec_shiftRight, if_pos (by omega), if_pos (by omega)]
      congr 1
      show (v.toBitVec >>> (16 : Nat)).getLsbD i = (v.toBitVec.sshiftRight 16).getLsbD i
      rw [BitVec.getLsbD_ushiftRight, BitVec.getLsbD_sshiftRight, decide_eq_false (show ¬ 32 ≤ i by omega), if_pos (by omega)]; rfl
    · rw [Int32.toBitVec_toInt8, Int32.toBitVec_toInt8, BitVec.getLsbD_signExtend, BitVec.getLsbD_signExtend, UInt32.toBitVec_toInt32, UInt32.toBitVec_shiftRight, Int32.toBitVec_shiftRight, if_pos (by omega), if_pos (by omega)]
      congr 1
      show (v.toBitVec >>> (8 : Nat)).getLsbD i = (v.toBitVec.sshiftRight 8).getLsbD i
      rw [BitVec.getLsbD_ushiftRight, BitVec.getLsbD_sshiftRight, decide_eq_false (show ¬ 32 ≤ i by omega), if_pos (by omega)]; rfl
    · rw [Int32.toBitVec_toInt8, Int32.toBitVec_toInt8, BitVec.getLsbD_signExtend, BitVec.getLsbD_signExtend, UInt32.toBitVec_toInt32, UInt32.toBitVec_shiftRight, Int32.toBitVec_shiftRight, if_pos (by omega), if_pos (by omega)]
      congr 1
      show (v.toBitVec >>> (0 : Nat)).getLsbD i = (v.toBitVec.sshiftRight 0).getLsbD i
      rw [BitVec.getLsbD_ushiftRight, BitVec.getLsbD_sshiftRight, decide_eq_false (show ¬ 32 ≤ i by omega), if_pos (by omega)]; rfl
  rw [key]
theorem t4_eq {t t' : Nat → Int32} {len : Nat} {v : Int32} (h : ∀ j, j < len → t j = t' j) : ∀ j, j < len + 4 → t4 byC t len v j = t4 byR t' len v j := by
  intro j hj
  unfold t4
  rw [by_eq (v := v) (Or.inl rfl), by_eq (v := v) (Or.inr (Or.inl rfl)), by_eq (v := v) (Or.inr (Or.inr (Or.inl rfl))), by_eq (v := v) (Or.inr (Or.inr (Or.inr rfl)))]
  by_cases c3 : j = len + 1 + 1 + 1
  · rw [c3, vup_eq, vup_eq]
  · rw [vup_ne c3, vup_ne c3]
    by_cases c2 : j = len + 1 + 1
    · rw [c2, vup_eq, vup_eq]
    · rw [vup_ne c2, vup_ne c2]
      by_cases c1 : j = len + 1
      · rw [c1, vup_eq, vup_eq]
      · rw [vup_ne c1, vup_ne c1]
        by_cases c0 : j = len
        · rw [c0, vup_eq, vup_eq]
        · rw [vup_ne c0, vup_ne c0]; exact h j (by omega)
theorem t20_eq {t t' : Nat → Int32} {len : Nat} {a b c d e : Int32} (h : ∀ j, j < len → t j = t' j) : ∀ j, j < len + 20 → t20 byC t len a b c d e j = t20 byR t' len a b c d e j := fun j hj => t4_eq (t4_eq (t4_eq (t4_eq (t4_eq h)))) j (by omega)
theorem t4_o {f : Int32 → Int32 → Int32} {t : Nat → Int32} {len j : Nat} {v : Int32} (h : len + 4 ≤ j) : t4 f t len v j = t j := by
  unfold t4
  rw [vup_ne (by omega), vup_ne (by omega), vup_ne (by omega), vup_ne (by omega)]
theorem t20_o {f : Int32 → Int32 → Int32} {t : Nat → Int32} {len j : Nat} {a b c d e : Int32} (h : len + 20 ≤ j) : t20 f t len a b c d e j = t j := by
  unfold t20
  rw [t4_o (by omega), t4_o (by omega), t4_o (by omega), t4_o (by omega), t4_o (by omega)]
theorem up_self {I : mI} {a k : Nat} {x : Int32} (h : I a k = x) : m_up I a k x = I := by
  funext i
  unfold m_up
  split
  · next e => subst e; funext j; unfold va_up; split
              · next e => rw [e, h]
              · rfl
  · rfl
theorem tp_C {I : mI} {len : Nat} (h : I 1 1 = nI len) : tpC I (I 2) len = I := by unfold tpC; rw [up_self h, m_row_self]
theorem tp_R {I : mI} {len : Nat} (h : I 97 0 = nI len) : tpR I (I 96) len = I := by unfold tpR; rw [up_self h, m_row_self]
theorem st_feed {S : Nat × (Nat → Int32)} {I : mI} {J : mJ} {R : mR} {n : Nat} (h : INV I R n) (a b c d e : Int32) : STEP S YS_feed YM_feed [.int a, .int b, .int c, .int d, .int e] I J R n := by
  have hn := h.n1.1
  have hR := h.1
  have h68 := h.2.1
  obtain ⟨len, l6, p1, p2, p3⟩ := h.2.2.1.1
  obtain ⟨f, p⟩ := h.2.2.1.2.1
  have p1 : I 1 1 = nI len := p1
  have p2 : I 97 0 = nI len := p2
  rcases Nat.lt_or_ge 600 (len + 20) with g | g
  · refine st_q (v := .int (-1)) h (q_run2 (I' := I) (R' := R) ?_ KP.refl (KF.refl hR)) (fun K J' R' kp hR' => q_run2 (I' := cdI K) (R' := R') ?_ kp_cd (KF.refl hR'))
    · have r := c_S_feed0 (S := S) (d := 39) (I := I) (J := J) (t := I 2) (len := len) (a := a) (b := b) (c := c) (d0 := d) (e := e) hn hR g l6
      rw [tp_C p1] at r; exact r
    · have p4 : K 97 0 = nI len := by rw [kp.1 97 (by omega)]; exact p2
      have r := c_M_feed0 (S := S) (d := 39) (I := K) (J := J') (t := K 96) (len := len) (a := a) (b := b) (c := c) (d0 := d) (e := e) hn hR' g l6
      rw [tp_R p4, show tpR (m_up K 95 0 0) (K 96) len = m_up K 95 0 0 from tp_R (I := m_up K 95 0 0) (by rw [m_up_ne (by decide)]; exact p4)] at r; exact r
  · have r := c_S_feed1 (S := S) (d := 39) (I := I) (J := J) (t := I 2) (len := len) (a := a) (b := b) (c := c) (d0 := d) (e := e) hn hR g
    rw [tp_C p1] at r
    have o1 : ∀ y, y ≠ 1 → y ≠ 2 → (tpC I (t20 byC (I 2) len a b c d e) (len + 20)) y = I y := fun y h1 h2 => by unfold tpC; rw [m_row_ne h2, m_up_ne h1]
    have p4 : (tpC I (t20 byC (I 2) len a b c d e) (len + 20)) 97 0 = nI len := by rw [o1 97 (by decide) (by decide)]; exact p2
    have r2 := c_M_feed1 (S := S) (d := 39) (I := tpC I (t20 byC (I 2) len a b c d e) (len + 20)) (J := J) (t := (tpC I (t20 byC (I 2) len a b c d e) (len + 20)) 96) (len := len) (a := a) (b := b) (c := c) (d0 := d) (e := e) hn hR g
    rw [tp_R p4, o1 96 (by decide) (by decide)] at r2
    generalize hK : tpC I (t20 byC (I 2) len a b c d e) (len + 20) = K at r r2 o1 p4
    have k1 : K 1 = va_up (I 1) 1 (nI (len + 20)) := by rw [← hK]; unfold tpC; rw [m_row_ne (by decide), m_up_eq]
    have k2 : K 2 = t20 byC (I 2) len a b c d e := by rw [← hK]; unfold tpC; rw [m_row_eq]
    have o : ∀ y, y ≠ 1 → y ≠ 2 → y ≠ 95 → y ≠ 96 → y ≠ 97 → (tpR (m_up K 95 0 0) (t20 byR (I 96) len a b c d e) (len + 20)) y = I y := fun y h1 h2 h3 h4 h5 => by unfold tpR; rw [m_row_ne h4, m_up_ne h5, m_up_ne h3]; exact o1 y h1 h2
    have q1 : (tpR (m_up K 95 0 0) (t20 byR (I 96) len a b c d e) (len + 20)) 1 = va_up (I 1) 1 (nI (len + 20)) := by unfold tpR; rw [m_row_ne (by decide), m_up_ne (by decide), m_up_ne (by decide)]; exact k1
    have q2 : (tpR (m_up K 95 0 0) (t20 byR (I 96) len a b c d e) (len + 20)) 2 = t20 byC (I 2) len a b c d e := by unfold tpR; rw [m_row_ne (by decide), m_up_ne (by decide), m_up_ne (by decide)]; exact k2
    have q96 : (tpR (m_up K 95 0 0) (t20 byR (I 96) len a b c d e) (len + 20)) 96 = t20 byR (I 96) len a b c d e := by unfold tpR; rw [m_row_eq]
    have q97 : (tpR (m_up K 95 0 0) (t20 byR (I 96) len a b c d e) (len + 20)) 97 = va_up (I 97) 0 (nI (len + 20)) := by unfold tpR; rw [m_row_ne (by decide), m_up_eq, m_up_ne (by decide), o1 97 (by decide) (by decide)]
    refine st_run r r2 (Nat.le_refl _) h.n1.2 ?_
    generalize tpR (m_up K 95 0 0) (t20 byR (I 96) len a b c d e) (len + 20) = Z at o q1 q2 q96 q97 ⊢
    refine INV_mk h hR rfl (fun _ _ => rfl) (fun j _ => by rw [o 68 (by decide) (by decide) (by decide) (by decide) (by decide)]) (o 121 (by decide) (by decide) (by decide) (by decide) (by decide)) (fun y hy => o y (by omega) (by omega) (by omega) (by omega) (by omega)) (fun s h1 h2 => ?_) (TD_tape h.2.2.1 (len := len + 20) g (by rw [q1, vup_eq]) (by rw [q97, vup_eq]) (fun j hj => ?_) ?_ ?_ (fun y h1 h2 => o y (by omega) (by omega) (by omega) (by omega) (by omega)) (fun y h1 h2 => o y (by omega) (by omega) (by omega) (by omega) (by omega)))
    · refine ⟨by rw [q97, vup_ne (by omega)], by rw [o 98 (by decide) (by decide) (by decide) (by decide) (by decide)], by rw [o 99 (by decide) (by decide) (by decide) (by decide) (by decide)], fun j _ => by rw [q96, t20_o (by omega)], fun j _ => by rw [o 100 (by decide) (by decide) (by decide) (by decide) (by decide)], fun j _ => by rw [o 101 (by decide) (by decide) (by decide) (by decide) (by decide)], fun j _ => by rw [o 102 (by decide) (by decide) (by decide) (by decide) (by decide)], fun j _ => by rw [o 103 (by decide) (by decide) (by decide) (by decide) (by decide)]⟩
    · rw [q2, q96]
      exact t20_eq (fun i hi => by have := p3 i hi; rw [show 600 * 0 + i = i by omega] at this; exact this) j hj
    · rw [q1, vup_ne (by decide), o 98 (by decide) (by decide) (by decide) (by decide) (by decide)]; exact f
    · rw [q1, vup_ne (by decide), o 99 (by decide) (by decide) (by decide) (by decide) (by decide)]; exact p
