theorem va_1 {f : Nat → Int32} {a j : Nat} {x : Int32} (h : j ≠ a) : va_up f a x j = f j := vup_ne h
theorem st_text0 {S : Nat × (Nat → Int32)} {I : mI} {J : mJ} {R : mR} {n : Nat} (h : INV I R n) (y : Int32) : STEP S YS_text YM_text [.int (nI 0), .int y] I J R n := by
  have hn := h.n1.1
  have hR := h.1
  obtain ⟨len, hl6, a, b, e⟩ := h.2.2.1.1
  have a : I 1 1 = nI len := a
  have b : I 97 0 = nI len := b
  have eR : rdA (I 96) len 0 (len + 1) 0 (0, 0, -1, -1, DiA (I 104) 0) = (rdA (I 2) len 0 (len + 1) 0 (0, 0, -1, -1, DiA (I 104) 0)) := cg_rd (fun j hj => by have := e j hj; rw [show 600 * 0 + j = j by omega] at this; exact this.symm) _ _ _
  have h5 : (rdA (I 2) len 0 (len + 1) 0 (0, 0, -1, -1, DiA (I 104) 0)).f < 5 := rdA_5 _ _ _ (show (0 : Nat) < 5 by decide)
  obtain ⟨c, cle, e1, e2, e3⟩ := h.2.2.1.2.2.1
  have e1 : I 3 0 = nI c := e1
  have e2 : I 100 0 = nI c := e2
  by_cases hy : y = -1
  · subst hy
    by_cases d : c = 2
    · subst d
      exact st_tx h (q_S_text0nX hn hR a hl6 (by rw [e1]; decide)) (fun K J' R' hf hR' o => by
        have k96 : K 96 = I 96 := o 96 (by decide)
        have k104 : K 104 = I 104 := o 104 (by decide)
        have k100 : K 100 = I 100 := o 100 (by decide)
        have hlK : K 97 0 = nI len := by rw [o 97 (by decide)]; exact b
        have r := q_M_text0nX (S := S) (d := 31) (I := K) (J := J') hn hR' hlK hl6 (fit_by hf) (by rw [k100]; exact e2)
        skip
        exact r)
    · by_cases hf0 : (rdA (I 2) len 0 (len + 1) 0 (0, 0, -1, -1, DiA (I 104) 0)).f = 0
      · obtain ⟨nh, nl2, nw2, hO⟩ := (rd_ok (by decide) hf0).1 rfl
        rcases (show c = 0 ∨ c = 1 by omega) with d0 | d0 <;> subst d0
        · exact st_tx0 (k := 0) (c' := 1) (CM := va_up (I 100) 0 (nI 1)) h (by decide) (by decide) vup_eq (va_1 (by decide)) (va_1 (by decide)) vup_eq (fun j hj => va_1 hj) (fun j h1 h2 => absurd h1 (by omega)) hO (q_S_text0n0 hn hR a hl6 e1 Di_ok hf0) (fun K J' R' hf hR' o => by
        have k96 : K 96 = I 96 := o 96 (by decide)
        have k104 : K 104 = I 104 := o 104 (by decide)
        have k100 : K 100 = I 100 := o 100 (by decide)
        have hlK : K 97 0 = nI len := by rw [o 97 (by decide)]; exact b
        have r := q_M_text0n0 (S := S) (d := 31) (I := K) (J := J') hn hR' hlK hl6 (fit_by hf) (by rw [k100]; exact e2) (by rw [k96, k104, eR]; exact hf0)
        rw [k96, k104, eR] at r; rw [k100] at r
        exact r)
        · refine st_tx0 (k := 1) (c' := 2) (CM := va_up (I 100) 0 (nI 2)) h (by decide) (by decide) vup_eq (va_1 (by decide)) (va_1 (by decide)) vup_eq (fun j hj => va_1 hj) (fun j h1 h2 u h3 h4 => ?_) hO (q_S_text0n1 hn hR a hl6 e1 Di_ok hf0) (fun K J' R' hf hR' o => by
        have k96 : K 96 = I 96 := o 96 (by decide)
        have k104 : K 104 = I 104 := o 104 (by decide)
        have k100 : K 100 = I 100 := o 100 (by decide)
        have hlK : K 97 0 = nI len := by rw [o 97 (by decide)]; exact b
        have r := q_M_text0n1 (S := S) (d := 31) (I := K) (J := J') hn hR' hlK hl6 (fit_by hf) (by rw [k100]; exact e2) (by rw [k96, k104, eR]; exact hf0)
        rw [k96, k104, eR] at r; rw [k100] at r
        exact r)
          rw [e1] at h3
          have := congrArg Int32.toNatClampNeg h3
          rw [nI_clamp (by decide), nI_clamp (by omega)] at this
          omega
      · exact st_tx h (q_S_text0nF hn hR a hl6 (by rw [e1]; exact (nI_lt' (by omega) (by decide)).mpr (by omega)) Di_ok h5 hf0) (fun K J' R' hf hR' o => by
        have k96 : K 96 = I 96 := o 96 (by decide)
        have k104 : K 104 = I 104 := o 104 (by decide)
        have k100 : K 100 = I 100 := o 100 (by decide)
        have hlK : K 97 0 = nI len := by rw [o 97 (by decide)]; exact b
        have r := q_M_text0nF (S := S) (d := 31) (I := K) (J := J') hn hR' hlK hl6 (fit_by hf) (by rw [k100, e2]; exact fun q => d (by have := congrArg Int32.toNatClampNeg q; rw [nI_clamp (by omega), nI_clamp (by decide)] at this; exact this)) (by rw [k96, k104, eR]; exact hf0)
        rw [k96, k104, eR] at r
        exact r)
  · rcases oi (x := y) (c := c) (by omega) with ⟨g1, g2⟩ | ⟨k, hk, rfl, g1, g2⟩
    · exact st_tx h (q_S_text0oX hn hR a hl6 hy (by rw [e1]; exact g1)) (fun K J' R' hf hR' o => by
        have k96 : K 96 = I 96 := o 96 (by decide)
        have k104 : K 104 = I 104 := o 104 (by decide)
        have k100 : K 100 = I 100 := o 100 (by decide)
        have hlK : K 97 0 = nI len := by rw [o 97 (by decide)]; exact b
        have r := q_M_text0oX (S := S) (d := 31) (I := K) (J := J') hn hR' hlK hl6 (fit_by hf) hy (by rw [k100, e2]; exact g2)
        skip
        exact r)
    · by_cases hf0 : (rdA (I 2) len 0 (len + 1) 0 (0, 0, -1, -1, DiA (I 104) 0)).f = 0
      · obtain ⟨nh, nl2, nw2, hO⟩ := (rd_ok (by decide) hf0).1 rfl
        have hold : ∀ j, j < c → j ≠ k → ∀ u, I 3 0 = nI u → u ≤ 2 → j < u := fun j h1 h2 u h3 h4 => by
          rw [e1] at h3
          have := congrArg Int32.toNatClampNeg h3
          rw [nI_clamp (by omega), nI_clamp (by omega)] at this
          omega
        rcases (show k = 0 ∨ k = 1 by omega) with d0 | d0 <;> subst d0
        · exact st_tx0 (k := 0) (c' := c) (CM := I 100) h hk cle e1 rfl rfl e2 (fun _ _ => rfl) hold hO (q_S_text0o0 hn hR a hl6 (by rw [e1]; exact g1) Di_ok hf0) (fun K J' R' hf hR' o => by
        have k96 : K 96 = I 96 := o 96 (by decide)
        have k104 : K 104 = I 104 := o 104 (by decide)
        have k100 : K 100 = I 100 := o 100 (by decide)
        have hlK : K 97 0 = nI len := by rw [o 97 (by decide)]; exact b
        have r := q_M_text0o0 (S := S) (d := 31) (I := K) (J := J') hn hR' hlK hl6 (fit_by hf) (by rw [k100, e2]; exact g2) (by rw [k96, k104, eR]; exact hf0)
        rw [k96, k104, eR] at r; rw [k100] at r
        exact r)
        · exact st_tx0 (k := 1) (c' := c) (CM := I 100) h hk cle e1 rfl rfl e2 (fun _ _ => rfl) hold hO (q_S_text0o1 hn hR a hl6 (by rw [e1]; exact g1) Di_ok hf0) (fun K J' R' hf hR' o => by
        have k96 : K 96 = I 96 := o 96 (by decide)
        have k104 : K 104 = I 104 := o 104 (by decide)
        have k100 : K 100 = I 100 := o 100 (by decide)
        have hlK : K 97 0 = nI len := by rw [o 97 (by decide)]; exact b
        have r := q_M_text0o1 (S := S) (d := 31) (I := K) (J := J') hn hR' hlK hl6 (fit_by hf) (by rw [k100, e2]; exact g2) (by rw [k96, k104, eR]; exact hf0)
        rw [k96, k104, eR] at r; rw [k100] at r
        exact r)
      · exact st_tx h (q_S_text0oF hn hR a hl6 hy (by rw [e1]; exact g1) Di_ok h5 hf0) (fun K J' R' hf hR' o => by
        have k96 : K 96 = I 96 := o 96 (by decide)
        have k104 : K 104 = I 104 := o 104 (by decide)
        have k100 : K 100 = I 100 := o 100 (by decide)
        have hlK : K 97 0 = nI len := by rw [o 97 (by decide)]; exact b
        have r := q_M_text0oF (S := S) (d := 31) (I := K) (J := J') hn hR' hlK hl6 (fit_by hf) hy (by rw [k100, e2]; exact g2) (by rw [k96, k104, eR]; exact hf0)
        rw [k96, k104, eR] at r
        exact r)
theorem st_text1 {S : Nat × (Nat → Int32)} {I : mI} {J : mJ} {R : mR} {n : Nat} (h : INV I R n) (y : Int32) : STEP S YS_text YM_text [.int (nI 1), .int y] I J R n := by
  have hn := h.n1.1
  have hR := h.1
  obtain ⟨len, hl6, a, b, e⟩ := h.2.2.1.1
  have a : I 1 1 = nI len := a
  have b : I 97 0 = nI len := b
  have eR : rdA (I 96) len 1 (len + 1) 0 (0, 0, -1, -1, DiA (I 104) 1) = (rdA (I 2) len 1 (len + 1) 0 (0, 0, -1, -1, DiA (I 104) 1)) := cg_rd (fun j hj => by have := e j hj; rw [show 600 * 0 + j = j by omega] at this; exact this.symm) _ _ _
  have h5 : (rdA (I 2) len 1 (len + 1) 0 (0, 0, -1, -1, DiA (I 104) 1)).f < 5 := rdA_5 _ _ _ (show (0 : Nat) < 5 by decide)
  obtain ⟨c, cle, e1, e2, e3⟩ := h.2.2.1.2.2.2.1
  have e1 : I 3 1 = nI c := e1
  have e2 : I 100 1 = nI c := e2
  by_cases hy : y = -1
  · subst hy
    by_cases d : c = 2
    · subst d
      exact st_tx h (q_S_text1nX hn hR a hl6 (by rw [e1]; decide)) (fun K J' R' hf hR' o => by
        have k96 : K 96 = I 96 := o 96 (by decide)
        have k104 : K 104 = I 104 := o 104 (by decide)
        have k100 : K 100 = I 100 := o 100 (by decide)
        have hlK : K 97 0 = nI len := by rw [o 97 (by decide)]; exact b
        have r := q_M_text1nX (S := S) (d := 31) (I := K) (J := J') hn hR' hlK hl6 (fit_by hf) (by rw [k100]; exact e2)
        skip
        exact r)
    · by_cases hf0 : (rdA (I 2) len 1 (len + 1) 0 (0, 0, -1, -1, DiA (I 104) 1)).f = 0
      · obtain ⟨c2, hO⟩ := (rd_ok (by decide) hf0).2.1 rfl
        rcases (show c = 0 ∨ c = 1 by omega) with d0 | d0 <;> subst d0
        · exact st_tx1 (k := 0) (c' := 1) (CM := va_up (I 100) 1 (nI 1)) h (by decide) (by decide) vup_eq (va_1 (by decide)) (va_1 (by decide)) vup_eq (fun j hj => va_1 hj) (fun j h1 h2 => absurd h1 (by omega)) hO (q_S_text1n0 hn hR a hl6 e1 Di_ok hf0) (fun K J' R' hf hR' o => by
        have k96 : K 96 = I 96 := o 96 (by decide)
        have k104 : K 104 = I 104 := o 104 (by decide)
        have k100 : K 100 = I 100 := o 100 (by decide)
        have hlK : K 97 0 = nI len := by rw [o 97 (by decide)]; exact b
        have r := q_M_text1n0 (S := S) (d := 31) (I := K) (J := J') hn hR' hlK hl6 (fit_by hf) (by rw [k100]; exact e2) (by rw [k96, k104, eR]; exact hf0)
        rw [k96, k104, eR] at r; rw [k100] at r
        exact r)
        · refine st_tx1 (k := 1) (c' := 2) (CM := va_up (I 100) 1 (nI 2)) h (by decide) (by decide) vup_eq (va_1 (by decide)) (va_1 (by decide)) vup_eq (fun j hj => va_1 hj) (fun j h1 h2 u h3 h4 => ?_) hO (q_S_text1n1 hn hR a hl6 e1 Di_ok hf0) (fun K J' R' hf hR' o => by
        have k96 : K 96 = I 96 := o 96 (by decide)
        have k104 : K 104 = I 104 := o 104 (by decide)
        have k100 : K 100 = I 100 := o 100 (by decide)
        have hlK : K 97 0 = nI len := by rw [o 97 (by decide)]; exact b
        have r := q_M_text1n1 (S := S) (d := 31) (I := K) (J := J') hn hR' hlK hl6 (fit_by hf) (by rw [k100]; exact e2) (by rw [k96, k104, eR]; exact hf0)
        rw [k96, k104, eR] at r; rw [k100] at r
        exact r)
          rw [e1] at h3
          have := congrArg Int32.toNatClampNeg h3
          rw [nI_clamp (by decide), nI_clamp (by omega)] at this
          omega
      · exact st_tx h (q_S_text1nF hn hR a hl6 (by rw [e1]; exact (nI_lt' (by omega) (by decide)).mpr (by omega)) Di_ok h5 hf0) (fun K J' R' hf hR' o => by
        have k96 : K 96 = I 96 := o 96 (by decide)
        have k104 : K 104 = I 104 := o 104 (by decide)
        have k100 : K 100 = I 100 := o 100 (by decide)
        have hlK : K 97 0 = nI len := by rw [o 97 (by decide)]; exact b
        have r := q_M_text1nF (S := S) (d := 31) (I := K) (J := J') hn hR' hlK hl6 (fit_by hf) (by rw [k100, e2]; exact fun q => d (by have := congrArg Int32.toNatClampNeg q; rw [nI_clamp (by omega), nI_clamp (by decide)] at this; exact this)) (by rw [k96, k104, eR]; exact hf0)
        rw [k96, k104, eR] at r
        exact r)
  · rcases oi (x := y) (c := c) (by omega) with ⟨g1, g2⟩ | ⟨k, hk, rfl, g1, g2⟩
    · exact st_tx h (q_S_text1oX hn hR a hl6 hy (by rw [e1]; exact g1)) (fun K J' R' hf hR' o => by
        have k96 : K 96 = I 96 := o 96 (by decide)
        have k104 : K 104 = I 104 := o 104 (by decide)
        have k100 : K 100 = I 100 := o 100 (by decide)
        have hlK : K 97 0 = nI len := by rw [o 97 (by decide)]; exact b
        have r := q_M_text1oX (S := S) (d := 31) (I := K) (J := J') hn hR' hlK hl6 (fit_by hf) hy (by rw [k100, e2]; exact g2)
        skip
        exact r)
    · by_cases hf0 : (rdA (I 2) len 1 (len + 1) 0 (0, 0, -1, -1, DiA (I 104) 1)).f = 0
      · obtain ⟨c2, hO⟩ := (rd_ok (by decide) hf0).2.1 rfl
        have hold : ∀ j, j < c → j ≠ k → ∀ u, I 3 1 = nI u → u ≤ 2 → j < u := fun j h1 h2 u h3 h4 => by
          rw [e1] at h3
          have := congrArg Int32.toNatClampNeg h3
          rw [nI_clamp (by omega), nI_clamp (by omega)] at this
          omega
        rcases (show k = 0 ∨ k = 1 by omega) with d0 | d0 <;> subst d0
        · exact st_tx1 (k := 0) (c' := c) (CM := I 100) h hk cle e1 rfl rfl e2 (fun _ _ => rfl) hold hO (q_S_text1o0 hn hR a hl6 (by rw [e1]; exact g1) Di_ok hf0) (fun K J' R' hf hR' o => by
        have k96 : K 96 = I 96 := o 96 (by decide)
        have k104 : K 104 = I 104 := o 104 (by decide)
        have k100 : K 100 = I 100 := o 100 (by decide)
        have hlK : K 97 0 = nI len := by rw [o 97 (by decide)]; exact b
        have r := q_M_text1o0 (S := S) (d := 31) (I := K) (J := J') hn hR' hlK hl6 (fit_by hf) (by rw [k100, e2]; exact g2) (by rw [k96, k104, eR]; exact hf0)
        rw [k96, k104, eR] at r; rw [k100] at r
        exact r)
        · exact st_tx1 (k := 1) (c' := c) (CM := I 100) h hk cle e1 rfl rfl e2 (fun _ _ => rfl) hold hO (q_S_text1o1 hn hR a hl6 (by rw [e1]; exact g1) Di_ok hf0) (fun K J' R' hf hR' o => by
        have k96 : K 96 = I 96 := o 96 (by decide)
        have k104 : K 104 = I 104 := o 104 (by decide)
        have k100 : K 100 = I 100 := o 100 (by decide)
        have hlK : K 97 0 = nI len := by rw [o 97 (by decide)]; exact b
        have r := q_M_text1o1 (S := S) (d := 31) (I := K) (J := J') hn hR' hlK hl6 (fit_by hf) (by rw [k100, e2]; exact g2) (by rw [k96, k104, eR]; exact hf0)
        rw [k96, k104, eR] at r; rw [k100] at r
        exact r)
      · exact st_tx h (q_S_text1oF hn hR a hl6 hy (by rw [e1]; exact g1) Di_ok h5 hf0) (fun K J' R' hf hR' o => by
        have k96 : K 96 = I 96 := o 96 (by decide)
        have k104 : K 104 = I 104 := o 104 (by decide)
        have k100 : K 100 = I 100 := o 100 (by decide)
        have hlK : K 97 0 = nI len := by rw [o 97 (by decide)]; exact b
        have r := q_M_text1oF (S := S) (d := 31) (I := K) (J := J') hn hR' hlK hl6 (fit_by hf) hy (by rw [k100, e2]; exact g2) (by rw [k96, k104, eR]; exact hf0)
        rw [k96, k104, eR] at r
        exact r)
theorem st_text2 {S : Nat × (Nat → Int32)} {I : mI} {J : mJ} {R : mR} {n : Nat} (h : INV I R n) (y : Int32) : STEP S YS_text YM_text [.int (nI 2), .int y] I J R n := by
  have hn := h.n1.1
  have hR := h.1
  obtain ⟨len, hl6, a, b, e⟩ := h.2.2.1.1
  have a : I 1 1 = nI len := a
  have b : I 97 0 = nI len := b
  have eR : rdA (I 96) len 2 (len + 1) 0 (0, 0, -1, -1, DiA (I 104) 2) = (rdA (I 2) len 2 (len + 1) 0 (0, 0, -1, -1, DiA (I 104) 2)) := cg_rd (fun j hj => by have := e j hj; rw [show 600 * 0 + j = j by omega] at this; exact this.symm) _ _ _
  have h5 : (rdA (I 2) len 2 (len + 1) 0 (0, 0, -1, -1, DiA (I 104) 2)).f < 5 := rdA_5 _ _ _ (show (0 : Nat) < 5 by decide)
  obtain ⟨c, cle, e1, e2, e3⟩ := h.2.2.1.2.2.2.2
  have e1 : I 3 2 = nI c := e1
  have e2 : I 100 2 = nI c := e2
  by_cases hy : y = -1
  · subst hy
    by_cases d : c = 2
    · subst d
      exact st_tx h (q_S_text2nX hn hR a hl6 (by rw [e1]; decide)) (fun K J' R' hf hR' o => by
        have k96 : K 96 = I 96 := o 96 (by decide)
        have k104 : K 104 = I 104 := o 104 (by decide)
        have k100 : K 100 = I 100 := o 100 (by decide)
        have hlK : K 97 0 = nI len := by rw [o 97 (by decide)]; exact b
        have r := q_M_text2nX (S := S) (d := 31) (I := K) (J := J') hn hR' hlK hl6 (fit_by hf) (by rw [k100]; exact e2)
        skip
        exact r)
    · by_cases hf0 : (rdA (I 2) len 2 (len + 1) 0 (0, 0, -1, -1, DiA (I 104) 2)).f = 0
      · obtain ⟨c2, hO⟩ := (rd_ok (by decide) hf0).2.2 rfl
        rcases (show c = 0 ∨ c = 1 by omega) with d0 | d0 <;> subst d0
        · exact st_tx2 (k := 0) (c' := 1) (CM := va_up (I 100) 2 (nI 1)) h (by decide) (by decide) vup_eq (va_1 (by decide)) (va_1 (by decide)) vup_eq (fun j hj => va_1 hj) (fun j h1 h2 => absurd h1 (by omega)) hO (q_S_text2n0 hn hR a hl6 e1 Di_ok hf0) (fun K J' R' hf hR' o => by
        have k96 : K 96 = I 96 := o 96 (by decide)
        have k104 : K 104 = I 104 := o 104 (by decide)
        have k100 : K 100 = I 100 := o 100 (by decide)
        have hlK : K 97 0 = nI len := by rw [o 97 (by decide)]; exact b
        have r := q_M_text2n0 (S := S) (d := 31) (I := K) (J := J') hn hR' hlK hl6 (fit_by hf) (by rw [k100]; exact e2) (by rw [k96, k104, eR]; exact hf0)
        rw [k96, k104, eR] at r; rw [k100] at r
        exact r)
        · refine st_tx2 (k := 1) (c' := 2) (CM := va_up (I 100) 2 (nI 2)) h (by decide) (by decide) vup_eq (va_1 (by decide)) (va_1 (by decide)) vup_eq (fun j hj => va_1 hj) (fun j h1 h2 u h3 h4 => ?_) hO (q_S_text2n1 hn hR a hl6 e1 Di_ok hf0) (fun K J' R' hf hR' o => by
        have k96 : K 96 = I 96 := o 96 (by decide)
        have k104 : K 104 = I 104 := o 104 (by decide)
        have k100 : K 100 = I 100 := o 100 (by decide)
        have hlK : K 97 0 = nI len := by rw [o 97 (by decide)]; exact b
        have r := q_M_text2n1 (S := S) (d := 31) (I := K) (J := J') hn hR' hlK hl6 (fit_by hf) (by rw [k100]; exact e2) (by rw [k96, k104, eR]; exact hf0)
        rw [k96, k104, eR] at r; rw [k100] at r
        exact r)
          rw [e1] at h3
          have := congrArg Int32.toNatClampNeg h3
          rw [nI_clamp (by decide), nI_clamp (by omega)] at this
          omega
      · exact st_tx h (q_S_text2nF hn hR a hl6 (by rw [e1]; exact (nI_lt' (by omega) (by decide)).mpr (by omega)) Di_ok h5 hf0) (fun K J' R' hf hR' o => by
        have k96 : K 96 = I 96 := o 96 (by decide)
        have k104 : K 104 = I 104 := o 104 (by decide)
        have k100 : K 100 = I 100 := o 100 (by decide)
        have hlK : K 97 0 = nI len := by rw [o 97 (by decide)]; exact b
        have r := q_M_text2nF (S := S) (d := 31) (I := K) (J := J') hn hR' hlK hl6 (fit_by hf) (by rw [k100, e2]; exact fun q => d (by have := congrArg Int32.toNatClampNeg q; rw [nI_clamp (by omega), nI_clamp (by decide)] at this; exact this)) (by rw [k96, k104, eR]; exact hf0)
        rw [k96, k104, eR] at r
        exact r)
  · rcases oi (x := y) (c := c) (by omega) with ⟨g1, g2⟩ | ⟨k, hk, rfl, g1, g2⟩
    · exact st_tx h (q_S_text2oX hn hR a hl6 hy (by rw [e1]; exact g1)) (fun K J' R' hf hR' o => by
        have k96 : K 96 = I 96 := o 96 (by decide)
        have k104 : K 104 = I 104 := o 104 (by decide)
        have k100 : K 100 = I 100 := o 100 (by decide)
        have hlK : K 97 0 = nI len := by rw [o 97 (by decide)]; exact b
        have r := q_M_text2oX (S := S) (d := 31) (I := K) (J := J') hn hR' hlK hl6 (fit_by hf) hy (by rw [k100, e2]; exact g2)
        skip
        exact r)
    · by_cases hf0 : (rdA (I 2) len 2 (len + 1) 0 (0, 0, -1, -1, DiA (I 104) 2)).f = 0
      · obtain ⟨c2, hO⟩ := (rd_ok (by decide) hf0).2.2 rfl
        have hold : ∀ j, j < c → j ≠ k → ∀ u, I 3 2 = nI u → u ≤ 2 → j < u := fun j h1 h2 u h3 h4 => by
          rw [e1] at h3
          have := congrArg Int32.toNatClampNeg h3
          rw [nI_clamp (by omega), nI_clamp (by omega)] at this
          omega
        rcases (show k = 0 ∨ k = 1 by omega) with d0 | d0 <;> subst d0
        · exact st_tx2 (k := 0) (c' := c) (CM := I 100) h hk cle e1 rfl rfl e2 (fun _ _ => rfl) hold hO (q_S_text2o0 hn hR a hl6 (by rw [e1]; exact g1) Di_ok hf0) (fun K J' R' hf hR' o => by
        have k96 : K 96 = I 96 := o 96 (by decide)
        have k104 : K 104 = I 104 := o 104 (by decide)
        have k100 : K 100 = I 100 := o 100 (by decide)
        have hlK : K 97 0 = nI len := by rw [o 97 (by decide)]; exact b
        have r := q_M_text2o0 (S := S) (d := 31) (I := K) (J := J') hn hR' hlK hl6 (fit_by hf) (by rw [k100, e2]; exact g2) (by rw [k96, k104, eR]; exact hf0)
        rw [k96, k104, eR] at r; rw [k100] at r
        exact r)
        · exact st_tx2 (k := 1) (c' := c) (CM := I 100) h hk cle e1 rfl rfl e2 (fun _ _ => rfl) hold hO (q_S_text2o1 hn hR a hl6 (by rw [e1]; exact g1) Di_ok hf0) (fun K J' R' hf hR' o => by
        have k96 : K 96 = I 96 := o 96 (by decide)
        have k104 : K 104 = I 104 := o 104 (by decide)
        have k100 : K 100 = I 100 := o 100 (by decide)
        have hlK : K 97 0 = nI len := by rw [o 97 (by decide)]; exact b
        have r := q_M_text2o1 (S := S) (d := 31) (I := K) (J := J') hn hR' hlK hl6 (fit_by hf) (by rw [k100, e2]; exact g2) (by rw [k96, k104, eR]; exact hf0)
        rw [k96, k104, eR] at r; rw [k100] at r
        exact r)
      · exact st_tx h (q_S_text2oF hn hR a hl6 hy (by rw [e1]; exact g1) Di_ok h5 hf0) (fun K J' R' hf hR' o => by
        have k96 : K 96 = I 96 := o 96 (by decide)
        have k104 : K 104 = I 104 := o 104 (by decide)
        have k100 : K 100 = I 100 := o 100 (by decide)
        have hlK : K 97 0 = nI len := by rw [o 97 (by decide)]; exact b
        have r := q_M_text2oF (S := S) (d := 31) (I := K) (J := J') hn hR' hlK hl6 (fit_by hf) hy (by rw [k100, e2]; exact g2) (by rw [k96, k104, eR]; exact hf0)
        rw [k96, k104, eR] at r
        exact r)
theorem st_text {S : Nat × (Nat → Int32)} {I : mI} {J : mJ} {R : mR} {n : Nat} (h : INV I R n) (x y : Int32) : STEP S YS_text YM_text [.int x, .int y] I J R n := by
  have hn := h.n1.1
  have hR := h.1
  obtain ⟨len, hl6, a, b, e⟩ := h.2.2.1.1
  have a : I 1 1 = nI len := a
  have b : I 97 0 = nI len := b
  rcases rg (x := x) (a := 0) (c := 2) (by decide) (by decide) with ⟨p, q⟩ | ⟨w, _, hw, rfl, _⟩
  · by_cases c0 : x < 0
    · exact st_tx h (q_S_textB1 hn hR a hl6 c0) (fun K J' R' hf hR' o => q_M_textB hn hR' (by rw [o 97 (by decide)]; exact b) hl6 (fit_by hf) p)
    · exact st_tx h (q_S_textB2 hn hR a hl6 c0 (by
        rcases q with q | q
        · exact absurd q c0
        · have t2 : (nI 2).toInt = 2 := rfl
          have t3 : (nI 3).toInt = 3 := rfl
          rw [Int32.lt_iff_toInt_lt, t2] at q
          rw [Int32.lt_iff_toInt_lt, t3]; omega)) (fun K J' R' hf hR' o => q_M_textB hn hR' (by rw [o 97 (by decide)]; exact b) hl6 (fit_by hf) p)
  · rcases (show w = 0 ∨ w = 1 ∨ w = 2 by omega) with d | d | d <;> subst d
    · exact st_text0 h y
    · exact st_text1 h y
    · exact st_text2 h y
