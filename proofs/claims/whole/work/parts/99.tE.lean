/-- a line's tokens without its stop -/
def ms0 (T : Nat → Int32) (len : Nat) : List Bool → Nat → Bool × Nat
  | [], p => (true, p)
  | true :: r, p => if kI T len p = -1 then (false, p) else ms0 T len r (tkE T len p)
  | false :: r, p => if tkS T len p = 2 then ms0 T len r (tkE T len p) else (false, p)
theorem ms0_n {T : Nat → Int32} {len p : Nat} {r : List Bool} (h : tkS T len p = 2) : ms0 T len (false :: r) p = ms0 T len r (tkE T len p) := by
  show (if _ then _ else _) = _; rw [if_pos h]
theorem ms0_n0 {T : Nat → Int32} {len p : Nat} {r : List Bool} (h : ¬ tkS T len p = 2) : ms0 T len (false :: r) p = (false, p) := by
  show (if _ then _ else _) = _; rw [if_neg h]
theorem ms0_k {T : Nat → Int32} {len p : Nat} {r : List Bool} (h : ¬ kI T len p = -1) : ms0 T len (true :: r) p = ms0 T len r (tkE T len p) := by
  show (if _ then _ else _) = _; rw [if_neg h]
theorem ms0_k0 {T : Nat → Int32} {len p : Nat} {r : List Bool} (h : kI T len p = -1) : ms0 T len (true :: r) p = (false, p) := by
  show (if _ then _ else _) = _; rw [if_pos h]
theorem ms0_e {T : Nat → Int32} {len p : Nat} : ms0 T len [] p = (true, p) := rfl
def lq (I : mI) (J : mJ) (R : mR) (len : Nat) (sh : List Bool) (p : Nat) (x : Nat × Nat) (gh gl : Int32) (D : Nat → Int32) (v : Option Value) (I2 : mI) (J2 : mJ) (R2 : mR) : Prop :=
  R2 = R ∧ ((v = some (.int 0) ∧ (ms0 (I 96) len sh p).1 = false ∧ (∃ w, J2 = m_up J 95 14 w) ∧ ∃ F' D' A', F' 15 = nI (tkB (I 96) len (ms0 (I 96) len sh p).2) ∧ I2 = mRd I F' D' A')
  ∨ (v = some (.int 1) ∧ (ms0 (I 96) len sh p).1 = true ∧ J2 = m_up J 95 14 (tkW (I 96) len (ms0 (I 96) len sh p).2) ∧ ∃ F' A' g', RS (I 96) len (ms0 (I 96) len sh p).2 x gh gl g' F' ∧ I2 = mRd I F' D A'))
theorem RS_lt {T : Nat → Int32} {len p f q : Nat} {x : Nat × Nat} {gh gl g : Int32} {F : Nat → Int32} (hf : f < 5) (hq : q < p) (hS : RS T len p x gh gl g F) : RS T len p (s1 x true (f, q)) gh gl g (ltF x F f q) := by
  have l := ltF_s (F := F) (q := q) hS.f5 hf hS.h16 hS.h17
  exact RS.mk ((ltF_o (by decide) (by decide)).trans hS.h9) ((ltF_o (by decide) (by decide)).trans hS.h10) ((ltF_o (by decide) (by decide)).trans hS.h11) ((ltF_o (by decide) (by decide)).trans hS.h12) (fun h => (ltF_o (by decide) (by decide)).trans (hS.h13 h)) l.1 l.2.1 l.2.2 (s1_lt hS.hlp hq) ((ltF_o (by decide) (by decide)).trans hS.h20) ((ltF_o (by decide) (by decide)).trans hS.h21) ((ltF_o (by decide) (by decide)).trans hS.h22)
theorem g_b {b : Bool} {g : Int32} (h : b = true) : (if b = true then (0 : Int32) else g) = 0 := if_pos h
theorem g_n {b : Bool} {g : Int32} (h : ¬ b = true) : (if b = true then (0 : Int32) else g) = g := if_neg h
theorem g_z {b : Bool} : (if b = true then (0 : Int32) else 0) = 0 := by split <;> rfl
theorem bd_le {v lo hi : Nat} (h : ¬ bdB v lo hi = true) : lo ≤ v ∧ v ≤ hi := by
  unfold bdB at h; rw [decide_eq_true_iff] at h; omega
theorem r_mood {S : Nat × (Nat → Int32)} {d n : Nat} {I : mI} {J : mJ} {R : mR} (hn : 122 ≤ n) (hR : m_fin R) {len : Nat} (hl6 : len ≤ 600) (hby : byT (I 96) len) {p : Nat} (hp : p ≤ len) {x : Nat × Nat} {gh gl : Int32} {F D A : Nat → Int32} (hS : RS (I 96) len p x gh gl 1 F)  : AW S (d + 5) YM_moodLine n n (lq I J R len [false, false] p (s1 (s1 x (bdB (vN (I 96) len p) 0 5) (2, (tkB (I 96) len p))) (bdB (vN (I 96) len (tkE (I 96) len p)) 0 50) (2, (tkB (I 96) len (tkE (I 96) len p)))) (mxI gh (vN (I 96) len p)) gl (if ((bdB (vN (I 96) len p) 0 5) || (bdB (vN (I 96) len (tkE (I 96) len p)) 0 50)) = true then D else va_up D (3 + (vN (I 96) len p)) (nI (vN (I 96) len (tkE (I 96) len p))))) 0 [(0, .ref 95)] [] (m_row (m_row (m_row I 95 F) 104 D) 105 A) (m_up J 95 14 (tkW (I 96) len p)) R n := by
  have q0 : p ≤ len := hp
  refine a_aload_n 0 dM_moodLine_0 rfl rfl ?_
  refine a_iconstN (a := 0) dM_moodLine_1 (by decide) ?_
  by_cases t0 : tkS (I 96) len p = 2
  · have q1 : (tkE (I 96) len p) ≤ len := (tkE_le (T := I 96) q0).2
    refine a_callV (Q' := (tq1 I J R len (tkE (I 96) len p) (s1 x (bdB (vN (I 96) len p) 0 5) (2, (tkB (I 96) len p))) (mxI gh (vN (I 96) len p)) gl (if (bdB (vN (I 96) len p) 0 5) = true then 0 else 1) D (va_up A 0 (nI (vN (I 96) len p))))) (as := [.int (nI 0)]) (st := []) dM_moodLine_2 ml12_182 rfl (Nat.le_of_ble_eq_true rfl) ly_95 rfl rfl (by decide) (by omega) (Nat.le_of_ble_eq_true rfl) rfl (Nat.le_refl _) (Nat.le_refl _) (r_takeHouse1 (D := D) (A := A) hn hR hl6 hby q0 hS (by decide) t0) ?_
    intro v9 I9 J9 R9 ⟨e1, e2, e3, F1, hS1, e4⟩
    rw [e1, e2, e3, e4]
    show AW _ _ _ _ _ _ _ _ [.int 1] (m_row (m_row (m_row I 95 F1) 104 D) 105 (va_up A 0 (nI (vN (I 96) len p)))) _ _ _
    refine a_if_eq (tgt := 19) dM_moodLine_5 (by decide) (fun c => False.elim (absurd c (by decide))) (fun _ => ?_)
    refine a_aload_n 0 dM_moodLine_8 rfl rfl ?_
    refine a_iconstN (a := 1) dM_moodLine_9 (by decide) ?_
    refine a_iconstN (a := 0) dM_moodLine_10 (by decide) ?_
    refine a_bipushN (a := 50) dM_moodLine_11 (by decide) ?_
    by_cases t1 : tkS (I 96) len (tkE (I 96) len p) = 2
    · have q2 : (tkE (I 96) len (tkE (I 96) len p)) ≤ len := (tkE_le (T := I 96) q1).2
      refine a_callV (Q' := (tq1 I J R len (tkE (I 96) len (tkE (I 96) len p)) (s1 (s1 x (bdB (vN (I 96) len p) 0 5) (2, (tkB (I 96) len p))) (bdB (vN (I 96) len (tkE (I 96) len p)) 0 50) (2, (tkB (I 96) len (tkE (I 96) len p)))) (mxI gh (vN (I 96) len p)) gl (if (bdB (vN (I 96) len (tkE (I 96) len p)) 0 50) = true then 0 else (if (bdB (vN (I 96) len p) 0 5) = true then 0 else 1)) D (va_up (va_up A 0 (nI (vN (I 96) len p))) 1 (nI (vN (I 96) len (tkE (I 96) len p)))))) (as := [.int (nI 1), .int (nI 0), .int (nI 50)]) (st := []) dM_moodLine_13 ml12_161 rfl (Nat.le_of_ble_eq_true rfl) ly_95 rfl rfl (by decide) (by omega) (Nat.le_of_ble_eq_true rfl) rfl (Nat.le_refl _) (Nat.le_refl _) (r_take1 (D := D) (A := (va_up A 0 (nI (vN (I 96) len p)))) hn hR hl6 hby q1 hS1 (by decide) (by decide) (by decide) t1) ?_
      intro v9 I9 J9 R9 ⟨e1, e2, e3, F2, hS2, e4⟩
      rw [e1, e2, e3, e4]
      show AW _ _ _ _ _ _ _ _ [.int 1] (m_row (m_row (m_row I 95 F2) 104 D) 105 (va_up (va_up A 0 (nI (vN (I 96) len p))) 1 (nI (vN (I 96) len (tkE (I 96) len p))))) _ _ _
      by_cases b0 : (bdB (vN (I 96) len p) 0 5) = true
      ·
        refine a_if_ne (tgt := 21) dM_moodLine_16 (by decide) (fun _ => ?_) (fun c => False.elim (absurd c (by decide)))
        refine a_aload_n 0 dM_moodLine_21 rfl rfl ?_
        refine a_geti dM_moodLine_22 fl12_150 rfl ly_95 (by omega) ?_
        rw [show (m_row (m_row (m_row I 95 F2) 104 D) 105 (va_up (va_up A 0 (nI (vN (I 96) len p))) 1 (nI (vN (I 96) len (tkE (I 96) len p))))) 95 22 = (0 : Int32) from (by rw [show (m_row (m_row (m_row I 95 F2) 104 D) 105 (va_up (va_up A 0 (nI (vN (I 96) len p))) 1 (nI (vN (I 96) len (tkE (I 96) len p))))) 95 22 = F2 22 from rfl, hS2.h22, g_b b0, g_z])]
        refine a_if_eq (tgt := 47) dM_moodLine_25 (by decide) (fun _ => ?_) (fun c => False.elim (c rfl))
        refine a_iconstN (a := 1) dM_moodLine_47 (by decide) ?_
        exact a_zret dM_moodLine_48 rfl (by rfl) (by rw [lq, ms0_n t0, ms0_n t1, ms0_e]; rw [if_pos (show ((bdB (vN (I 96) len p) 0 5) || (bdB (vN (I 96) len (tkE (I 96) len p)) 0 50)) = true by rw [b0]; rfl)]; exact ⟨rfl, Or.inr ⟨rfl, rfl, rfl, _, _, _, hS2, rfl⟩⟩)
      · by_cases b1 : (bdB (vN (I 96) len (tkE (I 96) len p)) 0 50) = true
        ·
          refine a_if_ne (tgt := 21) dM_moodLine_16 (by decide) (fun _ => ?_) (fun c => False.elim (absurd c (by decide)))
          refine a_aload_n 0 dM_moodLine_21 rfl rfl ?_
          refine a_geti dM_moodLine_22 fl12_150 rfl ly_95 (by omega) ?_
          rw [show (m_row (m_row (m_row I 95 F2) 104 D) 105 (va_up (va_up A 0 (nI (vN (I 96) len p))) 1 (nI (vN (I 96) len (tkE (I 96) len p))))) 95 22 = (0 : Int32) from (by rw [show (m_row (m_row (m_row I 95 F2) 104 D) 105 (va_up (va_up A 0 (nI (vN (I 96) len p))) 1 (nI (vN (I 96) len (tkE (I 96) len p))))) 95 22 = F2 22 from rfl, hS2.h22, g_b b1])]
          refine a_if_eq (tgt := 47) dM_moodLine_25 (by decide) (fun _ => ?_) (fun c => False.elim (c rfl))
          refine a_iconstN (a := 1) dM_moodLine_47 (by decide) ?_
          exact a_zret dM_moodLine_48 rfl (by rfl) (by rw [lq, ms0_n t0, ms0_n t1, ms0_e]; rw [if_pos (show ((bdB (vN (I 96) len p) 0 5) || (bdB (vN (I 96) len (tkE (I 96) len p)) 0 50)) = true by rw [b1, Bool.or_true])]; exact ⟨rfl, Or.inr ⟨rfl, rfl, rfl, _, _, _, hS2, rfl⟩⟩)
        · have hv0 := bd_le b0
          refine a_if_ne (tgt := 21) dM_moodLine_16 (by decide) (fun _ => ?_) (fun c => False.elim (absurd c (by decide)))
          refine a_aload_n 0 dM_moodLine_21 rfl rfl ?_
          refine a_geti dM_moodLine_22 fl12_150 rfl ly_95 (by omega) ?_
          rw [show (m_row (m_row (m_row I 95 F2) 104 D) 105 (va_up (va_up A 0 (nI (vN (I 96) len p))) 1 (nI (vN (I 96) len (tkE (I 96) len p))))) 95 22 = (1 : Int32) from (by rw [show (m_row (m_row (m_row I 95 F2) 104 D) 105 (va_up (va_up A 0 (nI (vN (I 96) len p))) 1 (nI (vN (I 96) len (tkE (I 96) len p))))) 95 22 = F2 22 from rfl, hS2.h22, g_n b1, g_n b0])]
          refine a_if_eq (tgt := 47) dM_moodLine_25 (by decide) (fun c => False.elim (absurd c (by decide))) (fun _ => ?_)
          refine a_aload_n 0 dM_moodLine_28 rfl rfl ?_
          refine a_geta (r := 104) dM_moodLine_29 fl12_35 rfl ly_95 (by omega) (rf_95_18 hR) ?_
          refine a_iconstN (a := 3) dM_moodLine_32 (by decide) ?_
          refine a_aload_n 0 dM_moodLine_33 rfl rfl ?_
          refine a_geta (r := 105) dM_moodLine_34 fl12_38 rfl ly_95 (by omega) (rf_95_19 hR) ?_
          refine a_iconstN (a := 0) dM_moodLine_37 (by decide) ?_
          refine a_ialdN (a := 0) dM_moodLine_38 ly_105 (by omega) (by omega) (by decide) ?_
          rw [show (m_row (m_row (m_row I 95 F2) 104 D) 105 (va_up (va_up A 0 (nI (vN (I 96) len p))) 1 (nI (vN (I 96) len (tkE (I 96) len p))))) 105 0 = (nI (vN (I 96) len p)) from rfl]
          refine a_iaddN (a := 3) (b := (vN (I 96) len p)) dM_moodLine_39 ?_
          refine a_aload_n 0 dM_moodLine_40 rfl rfl ?_
          refine a_geta (r := 105) dM_moodLine_41 fl12_38 rfl ly_95 (by omega) (rf_95_19 hR) ?_
          refine a_iconstN (a := 1) dM_moodLine_44 (by decide) ?_
          refine a_ialdN (a := 1) dM_moodLine_45 ly_105 (by omega) (by omega) (by decide) ?_
          rw [show (m_row (m_row (m_row I 95 F2) 104 D) 105 (va_up (va_up A 0 (nI (vN (I 96) len p))) 1 (nI (vN (I 96) len (tkE (I 96) len p))))) 105 1 = (nI (vN (I 96) len (tkE (I 96) len p))) from rfl]
          refine a_iastN (a := (3 + (vN (I 96) len p))) dM_moodLine_46 ly_104 (by omega) (by omega) (by decide) ?_
          rw [show m_up (m_row (m_row (m_row I 95 F2) 104 D) 105 (va_up (va_up A 0 (nI (vN (I 96) len p))) 1 (nI (vN (I 96) len (tkE (I 96) len p))))) 104 (3 + (vN (I 96) len p)) (nI (vN (I 96) len (tkE (I 96) len p))) = (m_row (m_row (m_row I 95 F2) 104 (va_up D (3 + (vN (I 96) len p)) (nI (vN (I 96) len (tkE (I 96) len p))))) 105 (va_up (va_up A 0 (nI (vN (I 96) len p))) 1 (nI (vN (I 96) len (tkE (I 96) len p))))) from (by rw [m_up_comm (by decide), m_up_r])]
          refine a_iconstN (a := 1) dM_moodLine_47 (by decide) ?_
          exact a_zret dM_moodLine_48 rfl (by rfl) (by rw [lq, ms0_n t0, ms0_n t1, ms0_e]; rw [if_neg (show ¬ ((bdB (vN (I 96) len p) 0 5) || (bdB (vN (I 96) len (tkE (I 96) len p)) 0 50)) = true by rw [Bool.or_eq_true]; exact fun q => q.elim b0 b1)]; exact ⟨rfl, Or.inr ⟨rfl, rfl, rfl, _, _, _, hS2, rfl⟩⟩)
    ·
      refine a_callV (Q' := (tq0 I J R (tkB (I 96) len (tkE (I 96) len p)) D (va_up A 0 (nI (vN (I 96) len p))))) (as := [.int (nI 1), .int (nI 0), .int (nI 50)]) (st := []) dM_moodLine_13 ml12_161 rfl (Nat.le_of_ble_eq_true rfl) ly_95 rfl rfl (by decide) (by omega) (Nat.le_of_ble_eq_true rfl) rfl (Nat.le_refl _) (Nat.le_refl _) (r_take0 (D := D) (A := (va_up A 0 (nI (vN (I 96) len p)))) hn hR hl6 hby q1 hS1 t1) ?_
      intro v9 I9 J9 R9 ⟨e1, ⟨w9, e2⟩, e3, F9, h15, e4⟩
      rw [e1, e2, e3, e4]
      show AW _ _ _ _ _ _ _ _ [.int 0] (m_row (m_row (m_row I 95 F9) 104 D) 105 (va_up A 0 (nI (vN (I 96) len p)))) _ _ _
      refine a_if_ne (tgt := 21) dM_moodLine_16 (by decide) (fun c => False.elim (c rfl)) (fun _ => ?_)
      refine a_iconstN (a := 0) dM_moodLine_19 (by decide) ?_
      exact a_zret dM_moodLine_20 rfl (by rfl) ⟨rfl, Or.inl ⟨rfl, by rw [ms0_n t0, ms0_n0 t1], ⟨_, rfl⟩, _, _, _, by rw [ms0_n t0, ms0_n0 t1]; exact h15, rfl⟩⟩
  ·
    refine a_callV (Q' := (tq0 I J R (tkB (I 96) len p) D A)) (as := [.int (nI 0)]) (st := []) dM_moodLine_2 ml12_182 rfl (Nat.le_of_ble_eq_true rfl) ly_95 rfl rfl (by decide) (by omega) (Nat.le_of_ble_eq_true rfl) rfl (Nat.le_refl _) (Nat.le_refl _) (r_takeHouse0 (D := D) (A := A) hn hR hl6 hby q0 hS t0) ?_
    intro v9 I9 J9 R9 ⟨e1, ⟨w9, e2⟩, e3, F9, h15, e4⟩
    rw [e1, e2, e3, e4]
    show AW _ _ _ _ _ _ _ _ [.int 0] (m_row (m_row (m_row I 95 F9) 104 D) 105 A) _ _ _
    refine a_if_eq (tgt := 19) dM_moodLine_5 (by decide) (fun _ => ?_) (fun c => False.elim (c rfl))
    refine a_iconstN (a := 0) dM_moodLine_19 (by decide) ?_
    exact a_zret dM_moodLine_20 rfl (by rfl) ⟨rfl, Or.inl ⟨rfl, by rw [ms0_n0 t0], ⟨_, rfl⟩, _, _, _, by rw [ms0_n0 t0]; exact h15, rfl⟩⟩
theorem r_minds {S : Nat × (Nat → Int32)} {d n : Nat} {I : mI} {J : mJ} {R : mR} (hn : 122 ≤ n) (hR : m_fin R) {len : Nat} (hl6 : len ≤ 600) (hby : byT (I 96) len) {p : Nat} (hp : p ≤ len) {x : Nat × Nat} {gh gl : Int32} {F D A : Nat → Int32} (hS : RS (I 96) len p x gh gl 1 F)  : AW S (d + 5) YM_mindsLine n n (lq I J R len [false, false, false] p (s1 (s1 (s1 x (bdB (vN (I 96) len p) 0 9 || decide (nI (vN (I 96) len p) = -1)) (2, (tkB (I 96) len p))) (bdB (vN (I 96) len (tkE (I 96) len p)) 0 9 || decide (nI (vN (I 96) len (tkE (I 96) len p)) = nI (vN (I 96) len p))) (2, (tkB (I 96) len (tkE (I 96) len p)))) (bdB (vN (I 96) len (tkE (I 96) len (tkE (I 96) len p))) 0 3) (2, (tkB (I 96) len (tkE (I 96) len (tkE (I 96) len p))))) gh (mxI (mxI gl (vN (I 96) len p)) (vN (I 96) len (tkE (I 96) len p))) (if ((bdB (vN (I 96) len p) 0 9 || decide (nI (vN (I 96) len p) = -1)) || (bdB (vN (I 96) len (tkE (I 96) len p)) 0 9 || decide (nI (vN (I 96) len (tkE (I 96) len p)) = nI (vN (I 96) len p))) || (bdB (vN (I 96) len (tkE (I 96) len (tkE (I 96) len p))) 0 3)) = true then D else va_up (va_up D (39 + (vN (I 96) len p)) (nI (vN (I 96) len (tkE (I 96) len p)))) (49 + (vN (I 96) len p)) (nI (vN (I 96) len (tkE (I 96) len (tkE (I 96) len p)))))) 0 [(0, .ref 95)] [] (m_row (m_row (m_row I 95 F) 104 D) 105 A) (m_up J 95 14 (tkW (I 96) len p)) R n := by
  have q0 : p ≤ len := hp
  refine a_aload_n 0 dM_mindsLine_0 rfl rfl ?_
  refine a_iconstN (a := 0) dM_mindsLine_1 (by decide) ?_
  refine a_iconst (v := -1) dM_mindsLine_2 (by decide) ?_
  by_cases t0 : tkS (I 96) len p = 2
  · have q1 : (tkE (I 96) len p) ≤ len := (tkE_le (T := I 96) q0).2
    refine a_callV (Q' := (tq1 I J R len (tkE (I 96) len p) (s1 x (bdB (vN (I 96) len p) 0 9 || decide (nI (vN (I 96) len p) = -1)) (2, (tkB (I 96) len p))) gh (mxI gl (vN (I 96) len p)) (if (bdB (vN (I 96) len p) 0 9 || decide (nI (vN (I 96) len p) = -1)) = true then 0 else 1) D (va_up A 0 (nI (vN (I 96) len p))))) (as := [.int (nI 0), .int (-1)]) (st := []) dM_mindsLine_3 ml12_193 rfl (Nat.le_of_ble_eq_true rfl) ly_95 rfl rfl (by decide) (by omega) (Nat.le_of_ble_eq_true rfl) rfl (Nat.le_refl _) (Nat.le_refl _) (r_takeLetter1 (D := D) (A := A) hn hR hl6 hby q0 hS (by decide) t0) ?_
    intro v9 I9 J9 R9 ⟨e1, e2, e3, F1, hS1, e4⟩
    rw [e1, e2, e3, e4]
    show AW _ _ _ _ _ _ _ _ [.int 1] (m_row (m_row (m_row I 95 F1) 104 D) 105 (va_up A 0 (nI (vN (I 96) len p)))) _ _ _
    refine a_if_eq (tgt := 33) dM_mindsLine_6 (by decide) (fun c => False.elim (absurd c (by decide))) (fun _ => ?_)
    refine a_aload_n 0 dM_mindsLine_9 rfl rfl ?_
    refine a_iconstN (a := 1) dM_mindsLine_10 (by decide) ?_
    refine a_aload_n 0 dM_mindsLine_11 rfl rfl ?_
    refine a_geta (r := 105) dM_mindsLine_12 fl12_38 rfl ly_95 (by omega) (rf_95_19 hR) ?_
    refine a_iconstN (a := 0) dM_mindsLine_15 (by decide) ?_
    refine a_ialdN (a := 0) dM_mindsLine_16 ly_105 (by omega) (by omega) (by decide) ?_
    rw [show (m_row (m_row (m_row I 95 F1) 104 D) 105 (va_up A 0 (nI (vN (I 96) len p)))) 105 0 = (nI (vN (I 96) len p)) from rfl]
    by_cases t1 : tkS (I 96) len (tkE (I 96) len p) = 2
    · have q2 : (tkE (I 96) len (tkE (I 96) len p)) ≤ len := (tkE_le (T := I 96) q1).2
      refine a_callV (Q' := (tq1 I J R len (tkE (I 96) len (tkE (I 96) len p)) (s1 (s1 x (bdB (vN (I 96) len p) 0 9 || decide (nI (vN (I 96) len p) = -1)) (2, (tkB (I 96) len p))) (bdB (vN (I 96) len (tkE (I 96) len p)) 0 9 || decide (nI (vN (I 96) len (tkE (I 96) len p)) = nI (vN (I 96) len p))) (2, (tkB (I 96) len (tkE (I 96) len p)))) gh (mxI (mxI gl (vN (I 96) len p)) (vN (I 96) len (tkE (I 96) len p))) (if (bdB (vN (I 96) len (tkE (I 96) len p)) 0 9 || decide (nI (vN (I 96) len (tkE (I 96) len p)) = nI (vN (I 96) len p))) = true then 0 else (if (bdB (vN (I 96) len p) 0 9 || decide (nI (vN (I 96) len p) = -1)) = true then 0 else 1)) D (va_up (va_up A 0 (nI (vN (I 96) len p))) 1 (nI (vN (I 96) len (tkE (I 96) len p)))))) (as := [.int (nI 1), .int (nI (vN (I 96) len p))]) (st := []) dM_mindsLine_17 ml12_193 rfl (Nat.le_of_ble_eq_true rfl) ly_95 rfl rfl (by decide) (by omega) (Nat.le_of_ble_eq_true rfl) rfl (Nat.le_refl _) (Nat.le_refl _) (r_takeLetter1 (D := D) (A := (va_up A 0 (nI (vN (I 96) len p)))) hn hR hl6 hby q1 hS1 (by decide) t1) ?_
      intro v9 I9 J9 R9 ⟨e1, e2, e3, F2, hS2, e4⟩
      rw [e1, e2, e3, e4]
      show AW _ _ _ _ _ _ _ _ [.int 1] (m_row (m_row (m_row I 95 F2) 104 D) 105 (va_up (va_up A 0 (nI (vN (I 96) len p))) 1 (nI (vN (I 96) len (tkE (I 96) len p))))) _ _ _
      refine a_if_eq (tgt := 33) dM_mindsLine_20 (by decide) (fun c => False.elim (absurd c (by decide))) (fun _ => ?_)
      refine a_aload_n 0 dM_mindsLine_23 rfl rfl ?_
      refine a_iconstN (a := 2) dM_mindsLine_24 (by decide) ?_
      refine a_iconstN (a := 0) dM_mindsLine_25 (by decide) ?_
      refine a_iconstN (a := 3) dM_mindsLine_26 (by decide) ?_
      by_cases t2 : tkS (I 96) len (tkE (I 96) len (tkE (I 96) len p)) = 2
      · have q3 : (tkE (I 96) len (tkE (I 96) len (tkE (I 96) len p))) ≤ len := (tkE_le (T := I 96) q2).2
        refine a_callV (Q' := (tq1 I J R len (tkE (I 96) len (tkE (I 96) len (tkE (I 96) len p))) (s1 (s1 (s1 x (bdB (vN (I 96) len p) 0 9 || decide (nI (vN (I 96) len p) = -1)) (2, (tkB (I 96) len p))) (bdB (vN (I 96) len (tkE (I 96) len p)) 0 9 || decide (nI (vN (I 96) len (tkE (I 96) len p)) = nI (vN (I 96) len p))) (2, (tkB (I 96) len (tkE (I 96) len p)))) (bdB (vN (I 96) len (tkE (I 96) len (tkE (I 96) len p))) 0 3) (2, (tkB (I 96) len (tkE (I 96) len (tkE (I 96) len p))))) gh (mxI (mxI gl (vN (I 96) len p)) (vN (I 96) len (tkE (I 96) len p))) (if (bdB (vN (I 96) len (tkE (I 96) len (tkE (I 96) len p))) 0 3) = true then 0 else (if (bdB (vN (I 96) len (tkE (I 96) len p)) 0 9 || decide (nI (vN (I 96) len (tkE (I 96) len p)) = nI (vN (I 96) len p))) = true then 0 else (if (bdB (vN (I 96) len p) 0 9 || decide (nI (vN (I 96) len p) = -1)) = true then 0 else 1))) D (va_up (va_up (va_up A 0 (nI (vN (I 96) len p))) 1 (nI (vN (I 96) len (tkE (I 96) len p)))) 2 (nI (vN (I 96) len (tkE (I 96) len (tkE (I 96) len p))))))) (as := [.int (nI 2), .int (nI 0), .int (nI 3)]) (st := []) dM_mindsLine_27 ml12_161 rfl (Nat.le_of_ble_eq_true rfl) ly_95 rfl rfl (by decide) (by omega) (Nat.le_of_ble_eq_true rfl) rfl (Nat.le_refl _) (Nat.le_refl _) (r_take1 (D := D) (A := (va_up (va_up A 0 (nI (vN (I 96) len p))) 1 (nI (vN (I 96) len (tkE (I 96) len p))))) hn hR hl6 hby q2 hS2 (by decide) (by decide) (by decide) t2) ?_
        intro v9 I9 J9 R9 ⟨e1, e2, e3, F3, hS3, e4⟩
        rw [e1, e2, e3, e4]
        show AW _ _ _ _ _ _ _ _ [.int 1] (m_row (m_row (m_row I 95 F3) 104 D) 105 (va_up (va_up (va_up A 0 (nI (vN (I 96) len p))) 1 (nI (vN (I 96) len (tkE (I 96) len p)))) 2 (nI (vN (I 96) len (tkE (I 96) len (tkE (I 96) len p)))))) _ _ _
        by_cases b2 : (bdB (vN (I 96) len (tkE (I 96) len (tkE (I 96) len p))) 0 3) = true
        ·
          refine a_if_ne (tgt := 35) dM_mindsLine_30 (by decide) (fun _ => ?_) (fun c => False.elim (absurd c (by decide)))
          refine a_aload_n 0 dM_mindsLine_35 rfl rfl ?_
          refine a_geti dM_mindsLine_36 fl12_150 rfl ly_95 (by omega) ?_
          rw [show (m_row (m_row (m_row I 95 F3) 104 D) 105 (va_up (va_up (va_up A 0 (nI (vN (I 96) len p))) 1 (nI (vN (I 96) len (tkE (I 96) len p)))) 2 (nI (vN (I 96) len (tkE (I 96) len (tkE (I 96) len p)))))) 95 22 = (0 : Int32) from (by rw [show (m_row (m_row (m_row I 95 F3) 104 D) 105 (va_up (va_up (va_up A 0 (nI (vN (I 96) len p))) 1 (nI (vN (I 96) len (tkE (I 96) len p)))) 2 (nI (vN (I 96) len (tkE (I 96) len (tkE (I 96) len p)))))) 95 22 = F3 22 from rfl, hS3.h22, g_b b2])]
          refine a_if_eq (tgt := 82) dM_mindsLine_39 (by decide) (fun _ => ?_) (fun c => False.elim (c rfl))
          refine a_iconstN (a := 1) dM_mindsLine_82 (by decide) ?_
          exact a_zret dM_mindsLine_83 rfl (by rfl) (by rw [lq, ms0_n t0, ms0_n t1, ms0_n t2, ms0_e]; rw [if_pos (show ((bdB (vN (I 96) len p) 0 9 || decide (nI (vN (I 96) len p) = -1)) || (bdB (vN (I 96) len (tkE (I 96) len p)) 0 9 || decide (nI (vN (I 96) len (tkE (I 96) len p)) = nI (vN (I 96) len p))) || (bdB (vN (I 96) len (tkE (I 96) len (tkE (I 96) len p))) 0 3)) = true by rw [b2, Bool.or_true])]; exact ⟨rfl, Or.inr ⟨rfl, rfl, rfl, _, _, _, hS3, rfl⟩⟩)
        · by_cases b1 : (bdB (vN (I 96) len (tkE (I 96) len p)) 0 9 || decide (nI (vN (I 96) len (tkE (I 96) len p)) = nI (vN (I 96) len p))) = true
          ·
            refine a_if_ne (tgt := 35) dM_mindsLine_30 (by decide) (fun _ => ?_) (fun c => False.elim (absurd c (by decide)))
            refine a_aload_n 0 dM_mindsLine_35 rfl rfl ?_
            refine a_geti dM_mindsLine_36 fl12_150 rfl ly_95 (by omega) ?_
            rw [show (m_row (m_row (m_row I 95 F3) 104 D) 105 (va_up (va_up (va_up A 0 (nI (vN (I 96) len p))) 1 (nI (vN (I 96) len (tkE (I 96) len p)))) 2 (nI (vN (I 96) len (tkE (I 96) len (tkE (I 96) len p)))))) 95 22 = (0 : Int32) from (by rw [show (m_row (m_row (m_row I 95 F3) 104 D) 105 (va_up (va_up (va_up A 0 (nI (vN (I 96) len p))) 1 (nI (vN (I 96) len (tkE (I 96) len p)))) 2 (nI (vN (I 96) len (tkE (I 96) len (tkE (I 96) len p)))))) 95 22 = F3 22 from rfl, hS3.h22, g_n b2, g_b b1])]
            refine a_if_eq (tgt := 82) dM_mindsLine_39 (by decide) (fun _ => ?_) (fun c => False.elim (c rfl))
            refine a_iconstN (a := 1) dM_mindsLine_82 (by decide) ?_
            exact a_zret dM_mindsLine_83 rfl (by rfl) (by rw [lq, ms0_n t0, ms0_n t1, ms0_n t2, ms0_e]; rw [if_pos (show ((bdB (vN (I 96) len p) 0 9 || decide (nI (vN (I 96) len p) = -1)) || (bdB (vN (I 96) len (tkE (I 96) len p)) 0 9 || decide (nI (vN (I 96) len (tkE (I 96) len p)) = nI (vN (I 96) len p))) || (bdB (vN (I 96) len (tkE (I 96) len (tkE (I 96) len p))) 0 3)) = true by rw [b1, Bool.or_true, Bool.true_or])]; exact ⟨rfl, Or.inr ⟨rfl, rfl, rfl, _, _, _, hS3, rfl⟩⟩)
          · by_cases b0 : (bdB (vN (I 96) len p) 0 9 || decide (nI (vN (I 96) len p) = -1)) = true
            ·
              refine a_if_ne (tgt := 35) dM_mindsLine_30 (by decide) (fun _ => ?_) (fun c => False.elim (absurd c (by decide)))
              refine a_aload_n 0 dM_mindsLine_35 rfl rfl ?_
              refine a_geti dM_mindsLine_36 fl12_150 rfl ly_95 (by omega) ?_
              rw [show (m_row (m_row (m_row I 95 F3) 104 D) 105 (va_up (va_up (va_up A 0 (nI (vN (I 96) len p))) 1 (nI (vN (I 96) len (tkE (I 96) len p)))) 2 (nI (vN (I 96) len (tkE (I 96) len (tkE (I 96) len p)))))) 95 22 = (0 : Int32) from (by rw [show (m_row (m_row (m_row I 95 F3) 104 D) 105 (va_up (va_up (va_up A 0 (nI (vN (I 96) len p))) 1 (nI (vN (I 96) len (tkE (I 96) len p)))) 2 (nI (vN (I 96) len (tkE (I 96) len (tkE (I 96) len p)))))) 95 22 = F3 22 from rfl, hS3.h22, g_n b2, g_n b1, g_b b0])]
              refine a_if_eq (tgt := 82) dM_mindsLine_39 (by decide) (fun _ => ?_) (fun c => False.elim (c rfl))
              refine a_iconstN (a := 1) dM_mindsLine_82 (by decide) ?_
              exact a_zret dM_mindsLine_83 rfl (by rfl) (by rw [lq, ms0_n t0, ms0_n t1, ms0_n t2, ms0_e]; rw [if_pos (show ((bdB (vN (I 96) len p) 0 9 || decide (nI (vN (I 96) len p) = -1)) || (bdB (vN (I 96) len (tkE (I 96) len p)) 0 9 || decide (nI (vN (I 96) len (tkE (I 96) len p)) = nI (vN (I 96) len p))) || (bdB (vN (I 96) len (tkE (I 96) len (tkE (I 96) len p))) 0 3)) = true by rw [b0, Bool.true_or, Bool.true_or])]; exact ⟨rfl, Or.inr ⟨rfl, rfl, rfl, _, _, _, hS3, rfl⟩⟩)
            · have hv0 := bd_le (fun q => b0 (by rw [q, Bool.true_or]))
              refine a_if_ne (tgt := 35) dM_mindsLine_30 (by decide) (fun _ => ?_) (fun c => False.elim (absurd c (by decide)))
              refine a_aload_n 0 dM_mindsLine_35 rfl rfl ?_
              refine a_geti dM_mindsLine_36 fl12_150 rfl ly_95 (by omega) ?_
              rw [show (m_row (m_row (m_row I 95 F3) 104 D) 105 (va_up (va_up (va_up A 0 (nI (vN (I 96) len p))) 1 (nI (vN (I 96) len (tkE (I 96) len p)))) 2 (nI (vN (I 96) len (tkE (I 96) len (tkE (I 96) len p)))))) 95 22 = (1 : Int32) from (by rw [show (m_row (m_row (m_row I 95 F3) 104 D) 105 (va_up (va_up (va_up A 0 (nI (vN (I 96) len p))) 1 (nI (vN (I 96) len (tkE (I 96) len p)))) 2 (nI (vN (I 96) len (tkE (I 96) len (tkE (I 96) len p)))))) 95 22 = F3 22 from rfl, hS3.h22, g_n b2, g_n b1, g_n b0])]
              refine a_if_eq (tgt := 82) dM_mindsLine_39 (by decide) (fun c => False.elim (absurd c (by decide))) (fun _ => ?_)
              refine a_aload_n 0 dM_mindsLine_42 rfl rfl ?_
              refine a_geta (r := 104) dM_mindsLine_43 fl12_35 rfl ly_95 (by omega) (rf_95_18 hR) ?_
              refine a_bipushN (a := 39) dM_mindsLine_46 (by decide) ?_
              refine a_aload_n 0 dM_mindsLine_48 rfl rfl ?_
              refine a_geta (r := 105) dM_mindsLine_49 fl12_38 rfl ly_95 (by omega) (rf_95_19 hR) ?_
              refine a_iconstN (a := 0) dM_mindsLine_52 (by decide) ?_
              refine a_ialdN (a := 0) dM_mindsLine_53 ly_105 (by omega) (by omega) (by decide) ?_
              rw [show (m_row (m_row (m_row I 95 F3) 104 D) 105 (va_up (va_up (va_up A 0 (nI (vN (I 96) len p))) 1 (nI (vN (I 96) len (tkE (I 96) len p)))) 2 (nI (vN (I 96) len (tkE (I 96) len (tkE (I 96) len p)))))) 105 0 = (nI (vN (I 96) len p)) from rfl]
              refine a_iaddN (a := 39) (b := (vN (I 96) len p)) dM_mindsLine_54 ?_
              refine a_aload_n 0 dM_mindsLine_55 rfl rfl ?_
              refine a_geta (r := 105) dM_mindsLine_56 fl12_38 rfl ly_95 (by omega) (rf_95_19 hR) ?_
              refine a_iconstN (a := 1) dM_mindsLine_59 (by decide) ?_
              refine a_ialdN (a := 1) dM_mindsLine_60 ly_105 (by omega) (by omega) (by decide) ?_
              rw [show (m_row (m_row (m_row I 95 F3) 104 D) 105 (va_up (va_up (va_up A 0 (nI (vN (I 96) len p))) 1 (nI (vN (I 96) len (tkE (I 96) len p)))) 2 (nI (vN (I 96) len (tkE (I 96) len (tkE (I 96) len p)))))) 105 1 = (nI (vN (I 96) len (tkE (I 96) len p))) from rfl]
              refine a_iastN (a := (39 + (vN (I 96) len p))) dM_mindsLine_61 ly_104 (by omega) (by omega) (by decide) ?_
              rw [show m_up (m_row (m_row (m_row I 95 F3) 104 D) 105 (va_up (va_up (va_up A 0 (nI (vN (I 96) len p))) 1 (nI (vN (I 96) len (tkE (I 96) len p)))) 2 (nI (vN (I 96) len (tkE (I 96) len (tkE (I 96) len p)))))) 104 (39 + (vN (I 96) len p)) (nI (vN (I 96) len (tkE (I 96) len p))) = (m_row (m_row (m_row I 95 F3) 104 (va_up D (39 + (vN (I 96) len p)) (nI (vN (I 96) len (tkE (I 96) len p))))) 105 (va_up (va_up (va_up A 0 (nI (vN (I 96) len p))) 1 (nI (vN (I 96) len (tkE (I 96) len p)))) 2 (nI (vN (I 96) len (tkE (I 96) len (tkE (I 96) len p)))))) from (by rw [m_up_comm (by decide), m_up_r])]
              refine a_aload_n 0 dM_mindsLine_62 rfl rfl ?_
              refine a_geta (r := 104) dM_mindsLine_63 fl12_35 rfl ly_95 (by omega) (rf_95_18 hR) ?_
              refine a_bipushN (a := 49) dM_mindsLine_66 (by decide) ?_
              refine a_aload_n 0 dM_mindsLine_68 rfl rfl ?_
              refine a_geta (r := 105) dM_mindsLine_69 fl12_38 rfl ly_95 (by omega) (rf_95_19 hR) ?_
              refine a_iconstN (a := 0) dM_mindsLine_72 (by decide) ?_
              refine a_ialdN (a := 0) dM_mindsLine_73 ly_105 (by omega) (by omega) (by decide) ?_
              rw [show (m_row (m_row (m_row I 95 F3) 104 (va_up D (39 + (vN (I 96) len p)) (nI (vN (I 96) len (tkE (I 96) len p))))) 105 (va_up (va_up (va_up A 0 (nI (vN (I 96) len p))) 1 (nI (vN (I 96) len (tkE (I 96) len p)))) 2 (nI (vN (I 96) len (tkE (I 96) len (tkE (I 96) len p)))))) 105 0 = (nI (vN (I 96) len p)) from rfl]
              refine a_iaddN (a := 49) (b := (vN (I 96) len p)) dM_mindsLine_74 ?_
              refine a_aload_n 0 dM_mindsLine_75 rfl rfl ?_
              refine a_geta (r := 105) dM_mindsLine_76 fl12_38 rfl ly_95 (by omega) (rf_95_19 hR) ?_
              refine a_iconstN (a := 2) dM_mindsLine_79 (by decide) ?_
              refine a_ialdN (a := 2) dM_mindsLine_80 ly_105 (by omega) (by omega) (by decide) ?_
              rw [show (m_row (m_row (m_row I 95 F3) 104 (va_up D (39 + (vN (I 96) len p)) (nI (vN (I 96) len (tkE (I 96) len p))))) 105 (va_up (va_up (va_up A 0 (nI (vN (I 96) len p))) 1 (nI (vN (I 96) len (tkE (I 96) len p)))) 2 (nI (vN (I 96) len (tkE (I 96) len (tkE (I 96) len p)))))) 105 2 = (nI (vN (I 96) len (tkE (I 96) len (tkE (I 96) len p)))) from rfl]
              refine a_iastN (a := (49 + (vN (I 96) len p))) dM_mindsLine_81 ly_104 (by omega) (by omega) (by decide) ?_
              rw [show m_up (m_row (m_row (m_row I 95 F3) 104 (va_up D (39 + (vN (I 96) len p)) (nI (vN (I 96) len (tkE (I 96) len p))))) 105 (va_up (va_up (va_up A 0 (nI (vN (I 96) len p))) 1 (nI (vN (I 96) len (tkE (I 96) len p)))) 2 (nI (vN (I 96) len (tkE (I 96) len (tkE (I 96) len p)))))) 104 (49 + (vN (I 96) len p)) (nI (vN (I 96) len (tkE (I 96) len (tkE (I 96) len p)))) = (m_row (m_row (m_row I 95 F3) 104 (va_up (va_up D (39 + (vN (I 96) len p)) (nI (vN (I 96) len (tkE (I 96) len p)))) (49 + (vN (I 96) len p)) (nI (vN (I 96) len (tkE (I 96) len (tkE (I 96) len p)))))) 105 (va_up (va_up (va_up A 0 (nI (vN (I 96) len p))) 1 (nI (vN (I 96) len (tkE (I 96) len p)))) 2 (nI (vN (I 96) len (tkE (I 96) len (tkE (I 96) len p)))))) from (by rw [m_up_comm (by decide), m_up_r])]
              refine a_iconstN (a := 1) dM_mindsLine_82 (by decide) ?_
              exact a_zret dM_mindsLine_83 rfl (by rfl) (by rw [lq, ms0_n t0, ms0_n t1, ms0_n t2, ms0_e]; rw [if_neg (show ¬ ((bdB (vN (I 96) len p) 0 9 || decide (nI (vN (I 96) len p) = -1)) || (bdB (vN (I 96) len (tkE (I 96) len p)) 0 9 || decide (nI (vN (I 96) len (tkE (I 96) len p)) = nI (vN (I 96) len p))) || (bdB (vN (I 96) len (tkE (I 96) len (tkE (I 96) len p))) 0 3)) = true by rw [Bool.or_eq_true, Bool.or_eq_true]; exact fun q => q.elim (fun q => q.elim b0 b1) b2)]; exact ⟨rfl, Or.inr ⟨rfl, rfl, rfl, _, _, _, hS3, rfl⟩⟩)
      ·
        refine a_callV (Q' := (tq0 I J R (tkB (I 96) len (tkE (I 96) len (tkE (I 96) len p))) D (va_up (va_up A 0 (nI (vN (I 96) len p))) 1 (nI (vN (I 96) len (tkE (I 96) len p)))))) (as := [.int (nI 2), .int (nI 0), .int (nI 3)]) (st := []) dM_mindsLine_27 ml12_161 rfl (Nat.le_of_ble_eq_true rfl) ly_95 rfl rfl (by decide) (by omega) (Nat.le_of_ble_eq_true rfl) rfl (Nat.le_refl _) (Nat.le_refl _) (r_take0 (D := D) (A := (va_up (va_up A 0 (nI (vN (I 96) len p))) 1 (nI (vN (I 96) len (tkE (I 96) len p))))) hn hR hl6 hby q2 hS2 t2) ?_
        intro v9 I9 J9 R9 ⟨e1, ⟨w9, e2⟩, e3, F9, h15, e4⟩
        rw [e1, e2, e3, e4]
        show AW _ _ _ _ _ _ _ _ [.int 0] (m_row (m_row (m_row I 95 F9) 104 D) 105 (va_up (va_up A 0 (nI (vN (I 96) len p))) 1 (nI (vN (I 96) len (tkE (I 96) len p))))) _ _ _
        refine a_if_ne (tgt := 35) dM_mindsLine_30 (by decide) (fun c => False.elim (c rfl)) (fun _ => ?_)
        refine a_iconstN (a := 0) dM_mindsLine_33 (by decide) ?_
        exact a_zret dM_mindsLine_34 rfl (by rfl) ⟨rfl, Or.inl ⟨rfl, by rw [ms0_n t0, ms0_n t1, ms0_n0 t2], ⟨_, rfl⟩, _, _, _, by rw [ms0_n t0, ms0_n t1, ms0_n0 t2]; exact h15, rfl⟩⟩
    ·
      refine a_callV (Q' := (tq0 I J R (tkB (I 96) len (tkE (I 96) len p)) D (va_up A 0 (nI (vN (I 96) len p))))) (as := [.int (nI 1), .int (nI (vN (I 96) len p))]) (st := []) dM_mindsLine_17 ml12_193 rfl (Nat.le_of_ble_eq_true rfl) ly_95 rfl rfl (by decide) (by omega) (Nat.le_of_ble_eq_true rfl) rfl (Nat.le_refl _) (Nat.le_refl _) (r_takeLetter0 (D := D) (A := (va_up A 0 (nI (vN (I 96) len p)))) hn hR hl6 hby q1 hS1 t1) ?_
      intro v9 I9 J9 R9 ⟨e1, ⟨w9, e2⟩, e3, F9, h15, e4⟩
      rw [e1, e2, e3, e4]
      show AW _ _ _ _ _ _ _ _ [.int 0] (m_row (m_row (m_row I 95 F9) 104 D) 105 (va_up A 0 (nI (vN (I 96) len p)))) _ _ _
      refine a_if_eq (tgt := 33) dM_mindsLine_20 (by decide) (fun _ => ?_) (fun c => False.elim (c rfl))
      refine a_iconstN (a := 0) dM_mindsLine_33 (by decide) ?_
      exact a_zret dM_mindsLine_34 rfl (by rfl) ⟨rfl, Or.inl ⟨rfl, by rw [ms0_n t0, ms0_n0 t1], ⟨_, rfl⟩, _, _, _, by rw [ms0_n t0, ms0_n0 t1]; exact h15, rfl⟩⟩
  ·
    refine a_callV (Q' := (tq0 I J R (tkB (I 96) len p) D A)) (as := [.int (nI 0), .int (-1)]) (st := []) dM_mindsLine_3 ml12_193 rfl (Nat.le_of_ble_eq_true rfl) ly_95 rfl rfl (by decide) (by omega) (Nat.le_of_ble_eq_true rfl) rfl (Nat.le_refl _) (Nat.le_refl _) (r_takeLetter0 (D := D) (A := A) hn hR hl6 hby q0 hS t0) ?_
    intro v9 I9 J9 R9 ⟨e1, ⟨w9, e2⟩, e3, F9, h15, e4⟩
    rw [e1, e2, e3, e4]
    show AW _ _ _ _ _ _ _ _ [.int 0] (m_row (m_row (m_row I 95 F9) 104 D) 105 A) _ _ _
    refine a_if_eq (tgt := 33) dM_mindsLine_6 (by decide) (fun _ => ?_) (fun c => False.elim (c rfl))
    refine a_iconstN (a := 0) dM_mindsLine_33 (by decide) ?_
    exact a_zret dM_mindsLine_34 rfl (by rfl) ⟨rfl, Or.inl ⟨rfl, by rw [ms0_n0 t0], ⟨_, rfl⟩, _, _, _, by rw [ms0_n0 t0]; exact h15, rfl⟩⟩
