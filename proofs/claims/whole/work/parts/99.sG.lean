/-- what is told at first -/
def D0 (of k : Nat) : Int32 := if of = 0 then (if k = 0 then nI 3 else if k < 3 then 0 else if k < 9 then nI 10 else if k < 39 then 0 else -1) else 0
theorem fin_40 {R : mR} {r : Option Nat} (h : m_fin R) : m_fin (m_up R 40 5 r) := m_fin_up h (by decide +kernel)
theorem dR_0 {I : mI} {F Di : Nat → Int32} {len of : Nat} (hof : of < 3) (hD : ∀ j, j < 121 → Di j = D0 of j) : dR of (rbM I F len) Di := by
  rcases (show of = 0 ∨ of = 1 ∨ of = 2 by omega) with h | h | h
  · subst h
    refine ⟨0, 0, ?_⟩
    refine OD.mk (by decide) (by decide) ?_ ?_ ?_ ?_ ?_ ?_ (fun l hl => absurd hl (by omega)) (fun l hl => absurd hl (by omega)) (fun l hl => absurd hl (by omega)) (fun l hl => absurd hl (by omega)) ?_ ?_ ?_
    · rw [hD 0 (by decide)]; rfl
    · rfl
    · rw [hD 1 (by decide)]; rfl
    · rfl
    · rw [hD 2 (by decide)]; rfl
    · intro h hh
      rw [hD (3 + h) (by omega)]
      show m_fill (fun _ => nI 10) (I 42) 6 h = D0 0 (3 + h)
      unfold m_fill D0
      rw [if_pos hh, if_pos rfl, if_neg (by omega), if_neg (by omega), if_pos (by omega)]
    · intro h hh
      rw [hD (39 + h) (by omega)]
      show m_fill (fun _ => -1) (I 47) 10 h = D0 0 (39 + h)
      unfold m_fill D0
      rw [if_pos hh, if_pos rfl, if_neg (by omega), if_neg (by omega), if_neg (by omega), if_neg (by omega)]
    · intro h hh
      rw [hD (49 + h) (by omega)]
      show m_fill (fun _ => -1) (I 48) 10 h = D0 0 (49 + h)
      unfold m_fill D0
      rw [if_pos hh, if_pos rfl, if_neg (by omega), if_neg (by omega), if_neg (by omega), if_neg (by omega)]
    · intro h hh
      rw [hD (59 + h) (by omega)]
      show m_fill (fun _ => -1) (I 49) 16 h = D0 0 (59 + h)
      unfold m_fill D0
      rw [if_pos hh, if_pos rfl, if_neg (by omega), if_neg (by omega), if_neg (by omega), if_neg (by omega)]
  · subst h
    refine ⟨0, ?_⟩
    exact WD.mk (by decide) rfl (by rw [hD 0 (by decide)]; rfl) (fun l hl => absurd hl (by omega)) (fun l hl => absurd hl (by omega)) (fun l hl => absurd hl (by omega))
  · subst h
    refine ⟨0, ?_⟩
    exact LD.mk (by decide) rfl (by rw [hD 0 (by decide)]; rfl) (fun l hl => absurd hl (by omega)) (fun l hl => absurd hl (by omega))
theorem OD_c {A B : mI} {o : Nat} {D : Nat → Int32} {nl nw : Nat} (H : OD A o D nl nw) (h : ∀ a, o ≤ a → a ≤ o + 8 → B a = A a) : OD B o D nl nw := by
  refine OD.mk H.l10 H.w8 ?_ ?_ H.d1 ?_ H.d2 ?_ ?_ ?_ ?_ ?_ ?_ ?_ ?_
  · rw [h o (by omega) (by omega)]; exact H.h0
  · rw [h o (by omega) (by omega)]; exact H.a1
  · rw [h o (by omega) (by omega)]; exact H.a2
  · rw [h (o + 1) (by omega) (by omega)]; exact H.mo
  · rw [h (o + 2) (by omega) (by omega)]; exact H.ho
  · rw [h (o + 3) (by omega) (by omega)]; exact H.ki
  · rw [h (o + 4) (by omega) (by omega)]; exact H.fo
  · rw [h (o + 5) (by omega) (by omega)]; exact H.pa
  · rw [h (o + 6) (by omega) (by omega)]; exact H.mi
  · rw [h (o + 7) (by omega) (by omega)]; exact H.sh
  · rw [h (o + 8) (by omega) (by omega)]; exact H.ti
theorem WD_c {A B : mI} {w : Nat} {D : Nat → Int32} {c : Nat} (H : WD A w D c) (h : ∀ a, w ≤ a → a ≤ w + 3 → B a = A a) : WD B w D c := by
  refine WD.mk H.c40 ?_ H.d0 ?_ ?_ ?_
  · rw [h w (by omega) (by omega)]; exact H.a0
  · rw [h (w + 1) (by omega) (by omega)]; exact H.r1
  · rw [h (w + 2) (by omega) (by omega)]; exact H.r2
  · rw [h (w + 3) (by omega) (by omega)]; exact H.r3
theorem LD_c {A B : mI} {g : Nat} {D : Nat → Int32} {c : Nat} (H : LD A g D c) (h : ∀ a, g ≤ a → a ≤ g + 2 → B a = A a) : LD B g D c := by
  refine LD.mk H.c8 ?_ H.d0 ?_ ?_
  · rw [h g (by omega) (by omega)]; exact H.a0
  · rw [h (g + 1) (by omega) (by omega)]; exact H.r1
  · rw [h (g + 2) (by omega) (by omega)]; exact H.r2
theorem rM_o {A : mI} {F K N P : Nat → Int32} {a : Nat} (h : a ≠ 40 ∧ a ≠ 57 ∧ a ≠ 58 ∧ a ≠ 59) : rM A F K N P a = A a := by
  unfold rM; rw [m_row_ne h.2.2.2, m_row_ne h.2.2.1, m_row_ne h.2.1, m_row_ne h.1]
theorem dR_c {of : Nat} (hof : of < 3) {A B : mI} {D : Nat → Int32} (h : ∀ a, 41 ≤ a → a ≤ 56 → B a = A a) (H : dR of A D) : dR of B D := by
  rcases (show of = 0 ∨ of = 1 ∨ of = 2 by omega) with e | e | e
  · subst e
    obtain ⟨nl, nw, H⟩ := H
    exact ⟨nl, nw, OD_c H (fun a h1 h2 => h a (by omega) (by omega))⟩
  · subst e
    obtain ⟨c, H⟩ := H
    exact ⟨c, WD_c H (fun a h1 h2 => h a (by omega) (by omega))⟩
  · subst e
    obtain ⟨c, H⟩ := H
    exact ⟨c, LD_c H (fun a h1 h2 => h a (by omega) (by omega))⟩
def rdQ (I : mI) (J : mJ) (R : mR) (of : Nat) (out : TS) (v : Option Value) (I2 : mI) (J2 : mJ) (R2 : mR) : Prop :=
  v = none ∧ J2 = J ∧ R2 = m_up R 40 5 (some 2) ∧ (∀ a, a < 40 ∨ 59 < a → I2 a = I a) ∧ I2 40 3 = nI out.f ∧ I2 40 4 = (if out.f = 0 then -1 else nI out.pl) ∧ (out.f = 0 → dR of I2 out.D)
theorem c_read {S : Nat × (Nat → Int32)} {d n : Nat} {I : mI} {J : mJ} {R : mR} (hn : 122 ≤ n) (hR : m_fin R) {len of : Nat} (hl6 : len ≤ 600) (hof : of < 3) {Di : Nat → Int32} (hD : ∀ j, j < 121 → Di j = D0 of j) : AW S (d + 8) YReader_read n n (rdQ I J R of (rdA (I 2) len of (len + 1) 0 (0, 0, -1, -1, Di))) 0 [(0, .ref 40), (1, .int (nI of)), (2, .ref 2), (3, .int (nI len))] [] I J R n := by
  refine a_mem (show I = m_row I 40 (I 40) from (m_row_self).symm) ?_
  refine a_aload_n 0 dReader_read_0 rfl rfl ?_
  refine a_aload_n 2 dReader_read_1 rfl rfl ?_
  refine a_iload_n 3 dReader_read_2 rfl rfl ?_
  refine a_callV (Q' := m_res none (rbM I (I 40) len) J (m_up R 40 5 (some 2))) (as := [.ref 2, .int (nI len)]) (st := []) dReader_read_3 ml7_42 rfl (Nat.le_of_ble_eq_true rfl) ly_40 rfl rfl (by decide) (by omega) (Nat.le_of_ble_eq_true rfl) rfl (Nat.le_refl _) (Nat.le_refl _) (c_rdBegin (F := I 40) hn hR hl6) (m_go ?_)
  show AW _ _ _ _ _ _ _ _ [] _ _ _ _
  refine a_iconstN (a := 0) dReader_read_6 (by decide) ?_
  refine a_istore (lv' := [(4, .int (nI 0)), (0, .ref 40), (1, .int (nI of)), (2, .ref 2), (3, .int (nI len))]) dReader_read_7 (by decide) rfl ?_
  refine a_mem (show rbM I (I 40) len = rM (rbM I (I 40) len) (fB (I 40) len) (I 57) (I 58) (I 59) from (rM_self (I := rbM I (I 40) len)).symm) ?_
  refine a_locs (lv' := [(4, .int (nI 0)), (0, .ref 40), (1, .int (nI of)), (2, .ref 2), (3, .int (nI len))]) [0, 1, 2, 3, 4] rfl ?_
  have ef : ∀ a, a < 40 ∨ 59 < a → rbM I (I 40) len a = I a := fun a ha => by
    show m_up (m_up (clI (m_row I 40 (fB (I 40) len))) 50 0 (nI 0)) 54 0 (nI 0) a = I a
    unfold clI; rw [m_up_ne (by omega), m_up_ne (by omega), m_row_ne (by omega), m_row_ne (by omega), m_row_ne (by omega), m_row_ne (by omega), m_up_ne (by omega), m_up_ne (by omega), m_up_ne (by omega), m_row_ne (by omega)]
  refine l_read (I := rbM I (I 40) len) (R := m_up R 40 5 (some 2)) hn (fin_40 hR) m_up_at hl6 hof (out := rdA (I 2) len of (len + 1) 0 (0, 0, -1, -1, Di)) ?_ (len + 1) 0 0 (rbM I (I 40) len) (fB (I 40) len) (I 57) (I 58) (I 59) (0, 0, -1, -1, Di) (by omega) (Nat.le_refl _) (Nat.zero_le _) (fun _ _ => rfl) rfl rfl ?_ rfl
  · intro A F K N P hA h3 h4 hd
    refine ⟨rfl, rfl, rfl, fun a ha => ?_, h3, h4, fun h => dR_c hof (fun a h1 h2 => rM_o (by omega)) (hd h)⟩
    rw [rM_o (by omega), hA a (by omega)]; exact ef a ha
  · exact CR.mk (show 0 < 5 by decide) rfl rfl rfl rfl (dR_0 hof hD)
