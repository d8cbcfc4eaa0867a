theorem ltU_e {D : Nat → Int32} {c : Nat} {h k f : Int32} : va_up (va_up (va_up (va_up D ((9 + (10 * 0)) + c) h) ((9 + (10 * (0 + 1))) + c) k) ((9 + (10 * ((0 + 1) + 1))) + c) f) 1 (nI (c + 1)) = ltU D c h k f := rfl
theorem r_letter {S : Nat × (Nat → Int32)} {d n : Nat} {I : mI} {J : mJ} {R : mR} (hn : 122 ≤ n) (hR : m_fin R) {len : Nat} (hl6 : len ≤ 600) (hby : byT (I 96) len) {p : Nat} (hp : p ≤ len) {x : Nat × Nat} {gh gl : Int32} {F D A : Nat → Int32} (hS : RS (I 96) len p x gh gl 1 F) {c : Nat} (hD1 : D 1 = nI c) (hc10 : c ≤ 10)  : AW S (d + 5) YM_letterLine n n (lq I J R len [false, true, false] p (s1 (s1 x (bdB (vN (I 96) len p) 0 5) (2, (tkB (I 96) len p))) (bdB (vN (I 96) len (tkE (I 96) len (tkE (I 96) len p))) 1 9) (2, (tkB (I 96) len (tkE (I 96) len (tkE (I 96) len p))))) (mxI gh (vN (I 96) len p)) gl (if c < 10 then ltU D c (nI (vN (I 96) len p)) (nI (kN (I 96) len (tkE (I 96) len p))) (nI (vN (I 96) len (tkE (I 96) len (tkE (I 96) len p)))) else D)) 0 [(0, .ref 95)] [] (m_row (m_row (m_row I 95 F) 104 D) 105 A) (m_up J 95 14 (tkW (I 96) len p)) R n := by
  have q0 : p ≤ len := hp
  refine a_aload_n 0 dM_letterLine_0 rfl rfl ?_
  refine a_iconstN (a := 0) dM_letterLine_1 (by decide) ?_
  by_cases t0 : tkS (I 96) len p = 2
  · have q1 : (tkE (I 96) len p) ≤ len := (tkE_le (T := I 96) q0).2
    refine a_callV (Q' := (tq1 I J R len (tkE (I 96) len p) (s1 x (bdB (vN (I 96) len p) 0 5) (2, (tkB (I 96) len p))) (mxI gh (vN (I 96) len p)) gl (if (bdB (vN (I 96) len p) 0 5) = true then 0 else 1) D (va_up A 0 (nI (vN (I 96) len p))))) (as := [.int (nI 0)]) (st := []) dM_letterLine_2 ml12_182 rfl (Nat.le_of_ble_eq_true rfl) ly_95 rfl rfl (by decide) (by omega) (Nat.le_of_ble_eq_true rfl) rfl (Nat.le_refl _) (Nat.le_refl _) (r_takeHouse1 (D := D) (A := A) hn hR hl6 hby q0 hS (by decide) t0) ?_
    intro v9 I9 J9 R9 ⟨e1, e2, e3, F1, hS1, e4⟩
    rw [e1, e2, e3, e4]
    show AW _ _ _ _ _ _ _ _ [.int 1] (m_row (m_row (m_row I 95 F1) 104 D) 105 (va_up A 0 (nI (vN (I 96) len p)))) _ _ _
    refine a_if_eq (tgt := 27) dM_letterLine_5 (by decide) (fun c => False.elim (absurd c (by decide))) (fun _ => ?_)
    refine a_aload_n 0 dM_letterLine_8 rfl rfl ?_
    refine a_iconstN (a := 1) dM_letterLine_9 (by decide) ?_
    by_cases t1 : ¬ kI (I 96) len (tkE (I 96) len p) = -1
    · have q2 : (tkE (I 96) len (tkE (I 96) len p)) ≤ len := (tkE_le (T := I 96) q1).2
      refine a_callV (Q' := (tq1 I J R len (tkE (I 96) len (tkE (I 96) len p)) (s1 x (bdB (vN (I 96) len p) 0 5) (2, (tkB (I 96) len p))) (mxI gh (vN (I 96) len p)) gl (if (bdB (vN (I 96) len p) 0 5) = true then 0 else 1) D (va_up (va_up A 0 (nI (vN (I 96) len p))) 1 (nI (kN (I 96) len (tkE (I 96) len p)))))) (as := [.int (nI 1)]) (st := []) dM_letterLine_10 ml12_186 rfl (Nat.le_of_ble_eq_true rfl) ly_95 rfl rfl (by decide) (by omega) (Nat.le_of_ble_eq_true rfl) rfl (Nat.le_refl _) (Nat.le_refl _) (r_takeKind1 (D := D) (A := (va_up A 0 (nI (vN (I 96) len p)))) hn hR hl6 hby q1 hS1 (by decide) t1) ?_
      intro v9 I9 J9 R9 ⟨e1, e2, e3, F2, hS2, e4⟩
      rw [e1, e2, e3, e4]
      show AW _ _ _ _ _ _ _ _ [.int 1] (m_row (m_row (m_row I 95 F2) 104 D) 105 (va_up (va_up A 0 (nI (vN (I 96) len p))) 1 (nI (kN (I 96) len (tkE (I 96) len p))))) _ _ _
      refine a_if_eq (tgt := 27) dM_letterLine_13 (by decide) (fun c => False.elim (absurd c (by decide))) (fun _ => ?_)
      refine a_aload_n 0 dM_letterLine_16 rfl rfl ?_
      refine a_iconstN (a := 2) dM_letterLine_17 (by decide) ?_
      refine a_iconstN (a := 1) dM_letterLine_18 (by decide) ?_
      refine a_bipushN (a := 9) dM_letterLine_19 (by decide) ?_
      by_cases t2 : tkS (I 96) len (tkE (I 96) len (tkE (I 96) len p)) = 2
      · have q3 : (tkE (I 96) len (tkE (I 96) len (tkE (I 96) len p))) ≤ len := (tkE_le (T := I 96) q2).2
        refine a_callV (Q' := (tq1 I J R len (tkE (I 96) len (tkE (I 96) len (tkE (I 96) len p))) (s1 (s1 x (bdB (vN (I 96) len p) 0 5) (2, (tkB (I 96) len p))) (bdB (vN (I 96) len (tkE (I 96) len (tkE (I 96) len p))) 1 9) (2, (tkB (I 96) len (tkE (I 96) len (tkE (I 96) len p))))) (mxI gh (vN (I 96) len p)) gl (if (bdB (vN (I 96) len (tkE (I 96) len (tkE (I 96) len p))) 1 9) = true then 0 else (if (bdB (vN (I 96) len p) 0 5) = true then 0 else 1)) D (va_up (va_up (va_up A 0 (nI (vN (I 96) len p))) 1 (nI (kN (I 96) len (tkE (I 96) len p)))) 2 (nI (vN (I 96) len (tkE (I 96) len (tkE (I 96) len p))))))) (as := [.int (nI 2), .int (nI 1), .int (nI 9)]) (st := []) dM_letterLine_21 ml12_161 rfl (Nat.le_of_ble_eq_true rfl) ly_95 rfl rfl (by decide) (by omega) (Nat.le_of_ble_eq_true rfl) rfl (Nat.le_refl _) (Nat.le_refl _) (r_take1 (D := D) (A := (va_up (va_up A 0 (nI (vN (I 96) len p))) 1 (nI (kN (I 96) len (tkE (I 96) len p))))) hn hR hl6 hby q2 hS2 (by decide) (by decide) (by decide) t2) ?_
        intro v9 I9 J9 R9 ⟨e1, e2, e3, F3, hS3, e4⟩
        rw [e1, e2, e3, e4]
        show AW _ _ _ _ _ _ _ _ [.int 1] (m_row (m_row (m_row I 95 F3) 104 D) 105 (va_up (va_up (va_up A 0 (nI (vN (I 96) len p))) 1 (nI (kN (I 96) len (tkE (I 96) len p)))) 2 (nI (vN (I 96) len (tkE (I 96) len (tkE (I 96) len p)))))) _ _ _
        by_cases hc : c < 10
        ·
          refine a_if_ne (tgt := 29) dM_letterLine_24 (by decide) (fun _ => ?_) (fun c => False.elim (absurd c (by decide)))
          refine a_aload_n 0 dM_letterLine_29 rfl rfl ?_
          refine a_geta (r := 104) dM_letterLine_30 fl12_35 rfl ly_95 (by omega) (rf_95_18 hR) ?_
          refine a_iconstN (a := 1) dM_letterLine_33 (by decide) ?_
          refine a_ialdN (a := 1) dM_letterLine_34 ly_104 (by omega) (by omega) (by decide) ?_
          rw [show (m_row (m_row (m_row I 95 F3) 104 D) 105 (va_up (va_up (va_up A 0 (nI (vN (I 96) len p))) 1 (nI (kN (I 96) len (tkE (I 96) len p)))) 2 (nI (vN (I 96) len (tkE (I 96) len (tkE (I 96) len p)))))) 104 1 = D 1 from rfl]
          rw [show (D 1) = (nI c) from hD1]
          refine a_istore_n (lv' := [(1, .int (nI c)), (0, .ref 95)]) dM_letterLine_35 rfl (by decide) rfl ?_
          refine a_iload_n 0 dM_letterLine_36 rfl rfl ?_
          refine a_bipushN (a := 10) dM_letterLine_37 (by decide) ?_
          refine a_icmp_geN (tgt := 85) dM_letterLine_39 (by decide) (by omega) (by omega) (fun c => False.elim (by omega)) (fun _ => ?_)
          refine a_iconstN (a := 0) dM_letterLine_42 (by decide) ?_
          refine a_istore_n (lv' := [(2, .int (nI 0)), (1, .int (nI c)), (0, .ref 95)]) dM_letterLine_43 rfl (by decide) rfl ?_
          refine a_iload_n 0 dM_letterLine_44 rfl rfl ?_
          refine a_iconstN (a := 3) dM_letterLine_45 (by decide) ?_
          refine a_icmp_geN (tgt := 75) dM_letterLine_46 (by decide) (by omega) (by omega) (fun c => False.elim (by omega)) (fun _ => ?_)
          refine a_aload_n 2 dM_letterLine_49 rfl rfl ?_
          refine a_geta (r := 104) dM_letterLine_50 fl12_35 rfl ly_95 (by omega) (rf_95_18 hR) ?_
          refine a_bipushN (a := 9) dM_letterLine_53 (by decide) ?_
          refine a_bipushN (a := 10) dM_letterLine_55 (by decide) ?_
          refine a_iload_n 0 dM_letterLine_57 rfl rfl ?_
          refine a_imulN (a := 10) (b := 0) dM_letterLine_58 ?_
          refine a_iaddN (a := 9) (b := (10 * 0)) dM_letterLine_59 ?_
          refine a_iload_n 1 dM_letterLine_60 rfl rfl ?_
          refine a_iaddN (a := (9 + (10 * 0))) (b := c) dM_letterLine_61 ?_
          refine a_aload_n 2 dM_letterLine_62 rfl rfl ?_
          refine a_geta (r := 105) dM_letterLine_63 fl12_38 rfl ly_95 (by omega) (rf_95_19 hR) ?_
          refine a_iload_n 0 dM_letterLine_66 rfl rfl ?_
          refine a_ialdN (a := 0) dM_letterLine_67 ly_105 (by omega) (by omega) (by decide) ?_
          rw [show (m_row (m_row (m_row I 95 F3) 104 D) 105 (va_up (va_up (va_up A 0 (nI (vN (I 96) len p))) 1 (nI (kN (I 96) len (tkE (I 96) len p)))) 2 (nI (vN (I 96) len (tkE (I 96) len (tkE (I 96) len p)))))) 105 0 = (nI (vN (I 96) len p)) from (by rw [m_row_eq]; exact ((va_up_ne _ _ (by decide)).trans ((va_up_ne _ _ (by decide)).trans (va_up_self _ _ _))))]
          refine a_iastN (a := ((9 + (10 * 0)) + c)) dM_letterLine_68 ly_104 (by omega) (by omega) (by decide) ?_
          rw [show m_up (m_row (m_row (m_row I 95 F3) 104 D) 105 (va_up (va_up (va_up A 0 (nI (vN (I 96) len p))) 1 (nI (kN (I 96) len (tkE (I 96) len p)))) 2 (nI (vN (I 96) len (tkE (I 96) len (tkE (I 96) len p)))))) 104 ((9 + (10 * 0)) + c) (nI (vN (I 96) len p)) = (m_row (m_row (m_row I 95 F3) 104 (va_up D ((9 + (10 * 0)) + c) (nI (vN (I 96) len p)))) 105 (va_up (va_up (va_up A 0 (nI (vN (I 96) len p))) 1 (nI (kN (I 96) len (tkE (I 96) len p)))) 2 (nI (vN (I 96) len (tkE (I 96) len (tkE (I 96) len p)))))) from (by rw [m_up_comm (by decide), m_up_r])]
          refine a_iincN (lv' := [(2, .int (nI (0 + 1))), (1, .int (nI c)), (0, .ref 95)]) (j := 0) dM_letterLine_69 rfl (by decide) rfl ?_
          refine a_goto (tgt := 44) dM_letterLine_72 (by decide) ?_
          refine a_iload_n 0 dM_letterLine_44 rfl rfl ?_
          refine a_iconstN (a := 3) dM_letterLine_45 (by decide) ?_
          refine a_icmp_geN (tgt := 75) dM_letterLine_46 (by decide) (by omega) (by omega) (fun c => False.elim (by omega)) (fun _ => ?_)
          refine a_aload_n 2 dM_letterLine_49 rfl rfl ?_
          refine a_geta (r := 104) dM_letterLine_50 fl12_35 rfl ly_95 (by omega) (rf_95_18 hR) ?_
          refine a_bipushN (a := 9) dM_letterLine_53 (by decide) ?_
          refine a_bipushN (a := 10) dM_letterLine_55 (by decide) ?_
          refine a_iload_n 0 dM_letterLine_57 rfl rfl ?_
          refine a_imulN (a := 10) (b := (0 + 1)) dM_letterLine_58 ?_
          refine a_iaddN (a := 9) (b := (10 * (0 + 1))) dM_letterLine_59 ?_
          refine a_iload_n 1 dM_letterLine_60 rfl rfl ?_
          refine a_iaddN (a := (9 + (10 * (0 + 1)))) (b := c) dM_letterLine_61 ?_
          refine a_aload_n 2 dM_letterLine_62 rfl rfl ?_
          refine a_geta (r := 105) dM_letterLine_63 fl12_38 rfl ly_95 (by omega) (rf_95_19 hR) ?_
          refine a_iload_n 0 dM_letterLine_66 rfl rfl ?_
          refine a_ialdN (a := (0 + 1)) dM_letterLine_67 ly_105 (by omega) (by omega) (by decide) ?_
          rw [show (m_row (m_row (m_row I 95 F3) 104 (va_up D ((9 + (10 * 0)) + c) (nI (vN (I 96) len p)))) 105 (va_up (va_up (va_up A 0 (nI (vN (I 96) len p))) 1 (nI (kN (I 96) len (tkE (I 96) len p)))) 2 (nI (vN (I 96) len (tkE (I 96) len (tkE (I 96) len p)))))) 105 (0 + 1) = (nI (kN (I 96) len (tkE (I 96) len p))) from (by rw [m_row_eq]; exact ((va_up_ne _ _ (by decide)).trans (va_up_self _ _ _)))]
          refine a_iastN (a := ((9 + (10 * (0 + 1))) + c)) dM_letterLine_68 ly_104 (by omega) (by omega) (by decide) ?_
          rw [show m_up (m_row (m_row (m_row I 95 F3) 104 (va_up D ((9 + (10 * 0)) + c) (nI (vN (I 96) len p)))) 105 (va_up (va_up (va_up A 0 (nI (vN (I 96) len p))) 1 (nI (kN (I 96) len (tkE (I 96) len p)))) 2 (nI (vN (I 96) len (tkE (I 96) len (tkE (I 96) len p)))))) 104 ((9 + (10 * (0 + 1))) + c) (nI (kN (I 96) len (tkE (I 96) len p))) = (m_row (m_row (m_row I 95 F3) 104 (va_up (va_up D ((9 + (10 * 0)) + c) (nI (vN (I 96) len p))) ((9 + (10 * (0 + 1))) + c) (nI (kN (I 96) len (tkE (I 96) len p))))) 105 (va_up (va_up (va_up A 0 (nI (vN (I 96) len p))) 1 (nI (kN (I 96) len (tkE (I 96) len p)))) 2 (nI (vN (I 96) len (tkE (I 96) len (tkE (I 96) len p)))))) from (by rw [m_up_comm (by decide), m_up_r])]
          refine a_iincN (lv' := [(2, .int (nI ((0 + 1) + 1))), (1, .int (nI c)), (0, .ref 95)]) (j := 0) dM_letterLine_69 rfl (by decide) rfl ?_
          refine a_goto (tgt := 44) dM_letterLine_72 (by decide) ?_
          refine a_iload_n 0 dM_letterLine_44 rfl rfl ?_
          refine a_iconstN (a := 3) dM_letterLine_45 (by decide) ?_
          refine a_icmp_geN (tgt := 75) dM_letterLine_46 (by decide) (by omega) (by omega) (fun c => False.elim (by omega)) (fun _ => ?_)
          refine a_aload_n 2 dM_letterLine_49 rfl rfl ?_
          refine a_geta (r := 104) dM_letterLine_50 fl12_35 rfl ly_95 (by omega) (rf_95_18 hR) ?_
          refine a_bipushN (a := 9) dM_letterLine_53 (by decide) ?_
          refine a_bipushN (a := 10) dM_letterLine_55 (by decide) ?_
          refine a_iload_n 0 dM_letterLine_57 rfl rfl ?_
          refine a_imulN (a := 10) (b := ((0 + 1) + 1)) dM_letterLine_58 ?_
          refine a_iaddN (a := 9) (b := (10 * ((0 + 1) + 1))) dM_letterLine_59 ?_
          refine a_iload_n 1 dM_letterLine_60 rfl rfl ?_
          refine a_iaddN (a := (9 + (10 * ((0 + 1) + 1)))) (b := c) dM_letterLine_61 ?_
          refine a_aload_n 2 dM_letterLine_62 rfl rfl ?_
          refine a_geta (r := 105) dM_letterLine_63 fl12_38 rfl ly_95 (by omega) (rf_95_19 hR) ?_
          refine a_iload_n 0 dM_letterLine_66 rfl rfl ?_
          refine a_ialdN (a := ((0 + 1) + 1)) dM_letterLine_67 ly_105 (by omega) (by omega) (by decide) ?_
          rw [show (m_row (m_row (m_row I 95 F3) 104 (va_up (va_up D ((9 + (10 * 0)) + c) (nI (vN (I 96) len p))) ((9 + (10 * (0 + 1))) + c) (nI (kN (I 96) len (tkE (I 96) len p))))) 105 (va_up (va_up (va_up A 0 (nI (vN (I 96) len p))) 1 (nI (kN (I 96) len (tkE (I 96) len p)))) 2 (nI (vN (I 96) len (tkE (I 96) len (tkE (I 96) len p)))))) 105 ((0 + 1) + 1) = (nI (vN (I 96) len (tkE (I 96) len (tkE (I 96) len p)))) from (by rw [m_row_eq]; exact (va_up_self _ _ _))]
          refine a_iastN (a := ((9 + (10 * ((0 + 1) + 1))) + c)) dM_letterLine_68 ly_104 (by omega) (by omega) (by decide) ?_
          rw [show m_up (m_row (m_row (m_row I 95 F3) 104 (va_up (va_up D ((9 + (10 * 0)) + c) (nI (vN (I 96) len p))) ((9 + (10 * (0 + 1))) + c) (nI (kN (I 96) len (tkE (I 96) len p))))) 105 (va_up (va_up (va_up A 0 (nI (vN (I 96) len p))) 1 (nI (kN (I 96) len (tkE (I 96) len p)))) 2 (nI (vN (I 96) len (tkE (I 96) len (tkE (I 96) len p)))))) 104 ((9 + (10 * ((0 + 1) + 1))) + c) (nI (vN (I 96) len (tkE (I 96) len (tkE (I 96) len p)))) = (m_row (m_row (m_row I 95 F3) 104 (va_up (va_up (va_up D ((9 + (10 * 0)) + c) (nI (vN (I 96) len p))) ((9 + (10 * (0 + 1))) + c) (nI (kN (I 96) len (tkE (I 96) len p)))) ((9 + (10 * ((0 + 1) + 1))) + c) (nI (vN (I 96) len (tkE (I 96) len (tkE (I 96) len p)))))) 105 (va_up (va_up (va_up A 0 (nI (vN (I 96) len p))) 1 (nI (kN (I 96) len (tkE (I 96) len p)))) 2 (nI (vN (I 96) len (tkE (I 96) len (tkE (I 96) len p)))))) from (by rw [m_up_comm (by decide), m_up_r])]
          refine a_iincN (lv' := [(2, .int (nI (((0 + 1) + 1) + 1))), (1, .int (nI c)), (0, .ref 95)]) (j := 0) dM_letterLine_69 rfl (by decide) rfl ?_
          refine a_goto (tgt := 44) dM_letterLine_72 (by decide) ?_
          refine a_iload_n 0 dM_letterLine_44 rfl rfl ?_
          refine a_iconstN (a := 3) dM_letterLine_45 (by decide) ?_
          refine a_icmp_geN (tgt := 75) dM_letterLine_46 (by decide) (by omega) (by omega) (fun _ => ?_) (fun c => False.elim (by omega))
          refine a_aload_n 2 dM_letterLine_75 rfl rfl ?_
          refine a_geta (r := 104) dM_letterLine_76 fl12_35 rfl ly_95 (by omega) (rf_95_18 hR) ?_
          refine a_iconstN (a := 1) dM_letterLine_79 (by decide) ?_
          refine a_dup2 dM_letterLine_80 rfl rfl ?_
          refine a_ialdN (a := 1) dM_letterLine_81 ly_104 (by omega) (by omega) (by decide) ?_
          rw [show (m_row (m_row (m_row I 95 F3) 104 (va_up (va_up (va_up D ((9 + (10 * 0)) + c) (nI (vN (I 96) len p))) ((9 + (10 * (0 + 1))) + c) (nI (kN (I 96) len (tkE (I 96) len p)))) ((9 + (10 * ((0 + 1) + 1))) + c) (nI (vN (I 96) len (tkE (I 96) len (tkE (I 96) len p)))))) 105 (va_up (va_up (va_up A 0 (nI (vN (I 96) len p))) 1 (nI (kN (I 96) len (tkE (I 96) len p)))) 2 (nI (vN (I 96) len (tkE (I 96) len (tkE (I 96) len p)))))) 104 1 = (nI c) from (by rw [m_row_ne (show (104 : Nat) ≠ 105 by decide), m_row_eq, va_up_ne _ _ (by omega), va_up_ne _ _ (by omega), va_up_ne _ _ (by omega)]; exact hD1)]
          refine a_iconstN (a := 1) dM_letterLine_82 (by decide) ?_
          refine a_iaddN (a := c) (b := 1) dM_letterLine_83 ?_
          refine a_iastN (a := 1) dM_letterLine_84 ly_104 (by omega) (by omega) (by decide) ?_
          rw [show m_up (m_row (m_row (m_row I 95 F3) 104 (va_up (va_up (va_up D ((9 + (10 * 0)) + c) (nI (vN (I 96) len p))) ((9 + (10 * (0 + 1))) + c) (nI (kN (I 96) len (tkE (I 96) len p)))) ((9 + (10 * ((0 + 1) + 1))) + c) (nI (vN (I 96) len (tkE (I 96) len (tkE (I 96) len p)))))) 105 (va_up (va_up (va_up A 0 (nI (vN (I 96) len p))) 1 (nI (kN (I 96) len (tkE (I 96) len p)))) 2 (nI (vN (I 96) len (tkE (I 96) len (tkE (I 96) len p)))))) 104 1 (nI (c + 1)) = (m_row (m_row (m_row I 95 F3) 104 (va_up (va_up (va_up (va_up D ((9 + (10 * 0)) + c) (nI (vN (I 96) len p))) ((9 + (10 * (0 + 1))) + c) (nI (kN (I 96) len (tkE (I 96) len p)))) ((9 + (10 * ((0 + 1) + 1))) + c) (nI (vN (I 96) len (tkE (I 96) len (tkE (I 96) len p))))) 1 (nI (c + 1)))) 105 (va_up (va_up (va_up A 0 (nI (vN (I 96) len p))) 1 (nI (kN (I 96) len (tkE (I 96) len p)))) 2 (nI (vN (I 96) len (tkE (I 96) len (tkE (I 96) len p)))))) from (by rw [m_up_comm (by decide), m_up_r])]
          refine a_iconstN (a := 1) dM_letterLine_85 (by decide) ?_
          exact a_zret dM_letterLine_86 rfl (by rfl) (by rw [lq, ms0_n t0, ms0_k t1, ms0_n t2, ms0_e]; rw [if_pos hc, ← ltU_e]; exact ⟨rfl, Or.inr ⟨rfl, rfl, rfl, _, _, _, hS3, rfl⟩⟩)
        ·
          refine a_if_ne (tgt := 29) dM_letterLine_24 (by decide) (fun _ => ?_) (fun c => False.elim (absurd c (by decide)))
          refine a_aload_n 0 dM_letterLine_29 rfl rfl ?_
          refine a_geta (r := 104) dM_letterLine_30 fl12_35 rfl ly_95 (by omega) (rf_95_18 hR) ?_
          refine a_iconstN (a := 1) dM_letterLine_33 (by decide) ?_
          refine a_ialdN (a := 1) dM_letterLine_34 ly_104 (by omega) (by omega) (by decide) ?_
          rw [show (m_row (m_row (m_row I 95 F3) 104 D) 105 (va_up (va_up (va_up A 0 (nI (vN (I 96) len p))) 1 (nI (kN (I 96) len (tkE (I 96) len p)))) 2 (nI (vN (I 96) len (tkE (I 96) len (tkE (I 96) len p)))))) 104 1 = D 1 from rfl]
          rw [show (D 1) = (nI c) from hD1]
          refine a_istore_n (lv' := [(1, .int (nI c)), (0, .ref 95)]) dM_letterLine_35 rfl (by decide) rfl ?_
          refine a_iload_n 0 dM_letterLine_36 rfl rfl ?_
          refine a_bipushN (a := 10) dM_letterLine_37 (by decide) ?_
          refine a_icmp_geN (tgt := 85) dM_letterLine_39 (by decide) (by omega) (by omega) (fun _ => ?_) (fun c => False.elim (by omega))
          refine a_iconstN (a := 1) dM_letterLine_85 (by decide) ?_
          exact a_zret dM_letterLine_86 rfl (by rfl) (by rw [lq, ms0_n t0, ms0_k t1, ms0_n t2, ms0_e]; rw [if_neg hc]; exact ⟨rfl, Or.inr ⟨rfl, rfl, rfl, _, _, _, hS3, rfl⟩⟩)
      ·
        refine a_callV (Q' := (tq0 I J R (tkB (I 96) len (tkE (I 96) len (tkE (I 96) len p))) D (va_up (va_up A 0 (nI (vN (I 96) len p))) 1 (nI (kN (I 96) len (tkE (I 96) len p)))))) (as := [.int (nI 2), .int (nI 1), .int (nI 9)]) (st := []) dM_letterLine_21 ml12_161 rfl (Nat.le_of_ble_eq_true rfl) ly_95 rfl rfl (by decide) (by omega) (Nat.le_of_ble_eq_true rfl) rfl (Nat.le_refl _) (Nat.le_refl _) (r_take0 (D := D) (A := (va_up (va_up A 0 (nI (vN (I 96) len p))) 1 (nI (kN (I 96) len (tkE (I 96) len p))))) hn hR hl6 hby q2 hS2 t2) ?_
        intro v9 I9 J9 R9 ⟨e1, ⟨w9, e2⟩, e3, F9, h15, e4⟩
        rw [e1, e2, e3, e4]
        show AW _ _ _ _ _ _ _ _ [.int 0] (m_row (m_row (m_row I 95 F9) 104 D) 105 (va_up (va_up A 0 (nI (vN (I 96) len p))) 1 (nI (kN (I 96) len (tkE (I 96) len p))))) _ _ _
        refine a_if_ne (tgt := 29) dM_letterLine_24 (by decide) (fun c => False.elim (c rfl)) (fun _ => ?_)
        refine a_iconstN (a := 0) dM_letterLine_27 (by decide) ?_
        exact a_zret dM_letterLine_28 rfl (by rfl) ⟨rfl, Or.inl ⟨rfl, by rw [ms0_n t0, ms0_k t1, ms0_n0 t2], ⟨_, rfl⟩, _, _, _, by rw [ms0_n t0, ms0_k t1, ms0_n0 t2]; exact h15, rfl⟩⟩
    · replace t1 := Classical.not_not.mp t1
      refine a_callV (Q' := (tq0 I J R (tkB (I 96) len (tkE (I 96) len p)) D (va_up A 0 (nI (vN (I 96) len p))))) (as := [.int (nI 1)]) (st := []) dM_letterLine_10 ml12_186 rfl (Nat.le_of_ble_eq_true rfl) ly_95 rfl rfl (by decide) (by omega) (Nat.le_of_ble_eq_true rfl) rfl (Nat.le_refl _) (Nat.le_refl _) (r_takeKind0 (D := D) (A := (va_up A 0 (nI (vN (I 96) len p)))) hn hR hl6 hby q1 hS1 t1) ?_
      intro v9 I9 J9 R9 ⟨e1, ⟨w9, e2⟩, e3, F9, h15, e4⟩
      rw [e1, e2, e3, e4]
      show AW _ _ _ _ _ _ _ _ [.int 0] (m_row (m_row (m_row I 95 F9) 104 D) 105 (va_up A 0 (nI (vN (I 96) len p)))) _ _ _
      refine a_if_eq (tgt := 27) dM_letterLine_13 (by decide) (fun _ => ?_) (fun c => False.elim (c rfl))
      refine a_iconstN (a := 0) dM_letterLine_27 (by decide) ?_
      exact a_zret dM_letterLine_28 rfl (by rfl) ⟨rfl, Or.inl ⟨rfl, by rw [ms0_n t0, ms0_k0 t1], ⟨_, rfl⟩, _, _, _, by rw [ms0_n t0, ms0_k0 t1]; exact h15, rfl⟩⟩
  ·
    refine a_callV (Q' := (tq0 I J R (tkB (I 96) len p) D A)) (as := [.int (nI 0)]) (st := []) dM_letterLine_2 ml12_182 rfl (Nat.le_of_ble_eq_true rfl) ly_95 rfl rfl (by decide) (by omega) (Nat.le_of_ble_eq_true rfl) rfl (Nat.le_refl _) (Nat.le_refl _) (r_takeHouse0 (D := D) (A := A) hn hR hl6 hby q0 hS t0) ?_
    intro v9 I9 J9 R9 ⟨e1, ⟨w9, e2⟩, e3, F9, h15, e4⟩
    rw [e1, e2, e3, e4]
    show AW _ _ _ _ _ _ _ _ [.int 0] (m_row (m_row (m_row I 95 F9) 104 D) 105 A) _ _ _
    refine a_if_eq (tgt := 27) dM_letterLine_5 (by decide) (fun _ => ?_) (fun c => False.elim (c rfl))
    refine a_iconstN (a := 0) dM_letterLine_27 (by decide) ?_
    exact a_zret dM_letterLine_28 rfl (by rfl) ⟨rfl, Or.inl ⟨rfl, by rw [ms0_n0 t0], ⟨_, rfl⟩, _, _, _, by rw [ms0_n0 t0]; exact h15, rfl⟩⟩
theorem c_keep3_0 {S : Nat × (Nat → Int32)} {d n : Nat} {I : mI} {J : mJ} {R : mR} (hn : 122 ≤ n) (hR : m_fin R) {F D A : Nat → Int32} (h : D 0 = nI 40)  : RUN S d YM_keepRow [.ref 95, .int (nI 3), .int (nI 40)] (m_row (m_row (m_row I 95 F) 104 D) 105 A) J R n none (mRd I F D A) J R n := by
  show AW S _ YM_keepRow n n _ 0 [(0, .ref 95), (1, .int (nI 3)), (2, .int (nI 40))] [] (m_row (m_row (m_row I 95 F) 104 D) 105 A) J R n
  refine a_aload_n 0 dM_keepRow_0 rfl rfl ?_
  refine a_geta (r := 104) dM_keepRow_1 fl12_35 rfl ly_95 (by omega) (rf_95_18 hR) ?_
  refine a_iconstN (a := 0) dM_keepRow_4 (by decide) ?_
  refine a_ialdN (a := 0) dM_keepRow_5 ly_104 (by omega) (by omega) (by decide) ?_
  rw [show (m_row (m_row (m_row I 95 F) 104 D) 105 A) 104 0 = D 0 from rfl]
  rw [show (D 0) = (nI 40) from h]
  refine a_istore_n (lv' := [(3, .int (nI 40)), (0, .ref 95), (1, .int (nI 3)), (2, .int (nI 40))]) dM_keepRow_6 rfl (by decide) rfl ?_
  refine a_iload_n 0 dM_keepRow_7 rfl rfl ?_
  refine a_iload_n 3 dM_keepRow_8 rfl rfl ?_
  refine a_icmp_neN (tgt := 13) dM_keepRow_9 (by decide) (by omega) (by omega) (fun c => False.elim (by omega)) (fun _ => ?_)
  exact a_vret dM_keepRow_12 rfl ⟨rfl, rfl, rfl, rfl⟩
theorem c_keep3_1 {S : Nat × (Nat → Int32)} {d n : Nat} {I : mI} {J : mJ} {R : mR} (hn : 122 ≤ n) (hR : m_fin R) {F D A : Nat → Int32} {c : Nat} (h : D 0 = nI c) (hc : c < 40)  : RUN S d YM_keepRow [.ref 95, .int (nI 3), .int (nI 40)] (m_row (m_row (m_row I 95 F) 104 D) 105 A) J R n none (mRd I F (wkU D c (A 0) (A 1) (A 2)) A) J R n := by
  show AW S _ YM_keepRow n n _ 0 [(0, .ref 95), (1, .int (nI 3)), (2, .int (nI 40))] [] (m_row (m_row (m_row I 95 F) 104 D) 105 A) J R n
  refine a_aload_n 0 dM_keepRow_0 rfl rfl ?_
  refine a_geta (r := 104) dM_keepRow_1 fl12_35 rfl ly_95 (by omega) (rf_95_18 hR) ?_
  refine a_iconstN (a := 0) dM_keepRow_4 (by decide) ?_
  refine a_ialdN (a := 0) dM_keepRow_5 ly_104 (by omega) (by omega) (by decide) ?_
  rw [show (m_row (m_row (m_row I 95 F) 104 D) 105 A) 104 0 = D 0 from rfl]
  rw [show (D 0) = (nI c) from h]
  refine a_istore_n (lv' := [(3, .int (nI c)), (0, .ref 95), (1, .int (nI 3)), (2, .int (nI 40))]) dM_keepRow_6 rfl (by decide) rfl ?_
  refine a_iload_n 0 dM_keepRow_7 rfl rfl ?_
  refine a_iload_n 3 dM_keepRow_8 rfl rfl ?_
  refine a_icmp_neN (tgt := 13) dM_keepRow_9 (by decide) (by omega) (by omega) (fun _ => ?_) (fun c => False.elim (by omega))
  refine a_iconstN (a := 0) dM_keepRow_13 (by decide) ?_
  refine a_istore (lv' := [(4, .int (nI 0)), (3, .int (nI c)), (0, .ref 95), (1, .int (nI 3)), (2, .int (nI 40))]) dM_keepRow_14 (by decide) rfl ?_
  refine a_iload 0 dM_keepRow_16 rfl ?_
  refine a_iload_n 3 dM_keepRow_18 rfl rfl ?_
  refine a_icmp_geN (tgt := 48) dM_keepRow_19 (by decide) (by omega) (by omega) (fun c => False.elim (by omega)) (fun _ => ?_)
  refine a_aload_n 2 dM_keepRow_22 rfl rfl ?_
  refine a_geta (r := 104) dM_keepRow_23 fl12_35 rfl ly_95 (by omega) (rf_95_18 hR) ?_
  refine a_iconstN (a := 1) dM_keepRow_26 (by decide) ?_
  refine a_iload_n 3 dM_keepRow_27 rfl rfl ?_
  refine a_iload_n 1 dM_keepRow_28 rfl rfl ?_
  refine a_imulN (a := 3) (b := c) dM_keepRow_29 ?_
  refine a_iaddN (a := 1) (b := (3 * c)) dM_keepRow_30 ?_
  refine a_iload 0 dM_keepRow_31 rfl ?_
  refine a_iaddN (a := (1 + (3 * c))) (b := 0) dM_keepRow_33 ?_
  refine a_aload_n 2 dM_keepRow_34 rfl rfl ?_
  refine a_geta (r := 105) dM_keepRow_35 fl12_38 rfl ly_95 (by omega) (rf_95_19 hR) ?_
  refine a_iload 0 dM_keepRow_38 rfl ?_
  refine a_ialdN (a := 0) dM_keepRow_40 ly_105 (by omega) (by omega) (by decide) ?_
  rw [show (m_row (m_row (m_row I 95 F) 104 D) 105 A) 105 0 = A 0 from rfl]
  refine a_iastN (a := ((1 + (3 * c)) + 0)) dM_keepRow_41 ly_104 (by omega) (by omega) (by decide) ?_
  rw [show m_up (m_row (m_row (m_row I 95 F) 104 D) 105 A) 104 ((1 + (3 * c)) + 0) (A 0) = (m_row (m_row (m_row I 95 F) 104 (va_up D ((1 + (3 * c)) + 0) (A 0))) 105 A) from (by rw [m_up_comm (by decide), m_up_r])]
  refine a_iincN (lv' := [(4, .int (nI (0 + 1))), (3, .int (nI c)), (0, .ref 95), (1, .int (nI 3)), (2, .int (nI 40))]) (j := 0) dM_keepRow_42 rfl (by decide) rfl ?_
  refine a_goto (tgt := 16) dM_keepRow_45 (by decide) ?_
  refine a_iload 0 dM_keepRow_16 rfl ?_
  refine a_iload_n 3 dM_keepRow_18 rfl rfl ?_
  refine a_icmp_geN (tgt := 48) dM_keepRow_19 (by decide) (by omega) (by omega) (fun c => False.elim (by omega)) (fun _ => ?_)
  refine a_aload_n 2 dM_keepRow_22 rfl rfl ?_
  refine a_geta (r := 104) dM_keepRow_23 fl12_35 rfl ly_95 (by omega) (rf_95_18 hR) ?_
  refine a_iconstN (a := 1) dM_keepRow_26 (by decide) ?_
  refine a_iload_n 3 dM_keepRow_27 rfl rfl ?_
  refine a_iload_n 1 dM_keepRow_28 rfl rfl ?_
  refine a_imulN (a := 3) (b := c) dM_keepRow_29 ?_
  refine a_iaddN (a := 1) (b := (3 * c)) dM_keepRow_30 ?_
  refine a_iload 0 dM_keepRow_31 rfl ?_
  refine a_iaddN (a := (1 + (3 * c))) (b := (0 + 1)) dM_keepRow_33 ?_
  refine a_aload_n 2 dM_keepRow_34 rfl rfl ?_
  refine a_geta (r := 105) dM_keepRow_35 fl12_38 rfl ly_95 (by omega) (rf_95_19 hR) ?_
  refine a_iload 0 dM_keepRow_38 rfl ?_
  refine a_ialdN (a := (0 + 1)) dM_keepRow_40 ly_105 (by omega) (by omega) (by decide) ?_
  rw [show (m_row (m_row (m_row I 95 F) 104 (va_up D ((1 + (3 * c)) + 0) (A 0))) 105 A) 105 (0 + 1) = A (0 + 1) from rfl]
  refine a_iastN (a := ((1 + (3 * c)) + (0 + 1))) dM_keepRow_41 ly_104 (by omega) (by omega) (by decide) ?_
  rw [show m_up (m_row (m_row (m_row I 95 F) 104 (va_up D ((1 + (3 * c)) + 0) (A 0))) 105 A) 104 ((1 + (3 * c)) + (0 + 1)) (A (0 + 1)) = (m_row (m_row (m_row I 95 F) 104 (va_up (va_up D ((1 + (3 * c)) + 0) (A 0)) ((1 + (3 * c)) + (0 + 1)) (A (0 + 1)))) 105 A) from (by rw [m_up_comm (by decide), m_up_r])]
  refine a_iincN (lv' := [(4, .int (nI ((0 + 1) + 1))), (3, .int (nI c)), (0, .ref 95), (1, .int (nI 3)), (2, .int (nI 40))]) (j := 0) dM_keepRow_42 rfl (by decide) rfl ?_
  refine a_goto (tgt := 16) dM_keepRow_45 (by decide) ?_
  refine a_iload 0 dM_keepRow_16 rfl ?_
  refine a_iload_n 3 dM_keepRow_18 rfl rfl ?_
  refine a_icmp_geN (tgt := 48) dM_keepRow_19 (by decide) (by omega) (by omega) (fun c => False.elim (by omega)) (fun _ => ?_)
  refine a_aload_n 2 dM_keepRow_22 rfl rfl ?_
  refine a_geta (r := 104) dM_keepRow_23 fl12_35 rfl ly_95 (by omega) (rf_95_18 hR) ?_
  refine a_iconstN (a := 1) dM_keepRow_26 (by decide) ?_
  refine a_iload_n 3 dM_keepRow_27 rfl rfl ?_
  refine a_iload_n 1 dM_keepRow_28 rfl rfl ?_
  refine a_imulN (a := 3) (b := c) dM_keepRow_29 ?_
  refine a_iaddN (a := 1) (b := (3 * c)) dM_keepRow_30 ?_
  refine a_iload 0 dM_keepRow_31 rfl ?_
  refine a_iaddN (a := (1 + (3 * c))) (b := ((0 + 1) + 1)) dM_keepRow_33 ?_
  refine a_aload_n 2 dM_keepRow_34 rfl rfl ?_
  refine a_geta (r := 105) dM_keepRow_35 fl12_38 rfl ly_95 (by omega) (rf_95_19 hR) ?_
  refine a_iload 0 dM_keepRow_38 rfl ?_
  refine a_ialdN (a := ((0 + 1) + 1)) dM_keepRow_40 ly_105 (by omega) (by omega) (by decide) ?_
  rw [show (m_row (m_row (m_row I 95 F) 104 (va_up (va_up D ((1 + (3 * c)) + 0) (A 0)) ((1 + (3 * c)) + (0 + 1)) (A (0 + 1)))) 105 A) 105 ((0 + 1) + 1) = A ((0 + 1) + 1) from rfl]
  refine a_iastN (a := ((1 + (3 * c)) + ((0 + 1) + 1))) dM_keepRow_41 ly_104 (by omega) (by omega) (by decide) ?_
  rw [show m_up (m_row (m_row (m_row I 95 F) 104 (va_up (va_up D ((1 + (3 * c)) + 0) (A 0)) ((1 + (3 * c)) + (0 + 1)) (A (0 + 1)))) 105 A) 104 ((1 + (3 * c)) + ((0 + 1) + 1)) (A ((0 + 1) + 1)) = (m_row (m_row (m_row I 95 F) 104 (va_up (va_up (va_up D ((1 + (3 * c)) + 0) (A 0)) ((1 + (3 * c)) + (0 + 1)) (A (0 + 1))) ((1 + (3 * c)) + ((0 + 1) + 1)) (A ((0 + 1) + 1)))) 105 A) from (by rw [m_up_comm (by decide), m_up_r])]
  refine a_iincN (lv' := [(4, .int (nI (((0 + 1) + 1) + 1))), (3, .int (nI c)), (0, .ref 95), (1, .int (nI 3)), (2, .int (nI 40))]) (j := 0) dM_keepRow_42 rfl (by decide) rfl ?_
  refine a_goto (tgt := 16) dM_keepRow_45 (by decide) ?_
  refine a_iload 0 dM_keepRow_16 rfl ?_
  refine a_iload_n 3 dM_keepRow_18 rfl rfl ?_
  refine a_icmp_geN (tgt := 48) dM_keepRow_19 (by decide) (by omega) (by omega) (fun _ => ?_) (fun c => False.elim (by omega))
  refine a_aload_n 2 dM_keepRow_48 rfl rfl ?_
  refine a_geta (r := 104) dM_keepRow_49 fl12_35 rfl ly_95 (by omega) (rf_95_18 hR) ?_
  refine a_iconstN (a := 0) dM_keepRow_52 (by decide) ?_
  refine a_dup2 dM_keepRow_53 rfl rfl ?_
  refine a_ialdN (a := 0) dM_keepRow_54 ly_104 (by omega) (by omega) (by decide) ?_
  rw [show (m_row (m_row (m_row I 95 F) 104 (va_up (va_up (va_up D ((1 + (3 * c)) + 0) (A 0)) ((1 + (3 * c)) + (0 + 1)) (A (0 + 1))) ((1 + (3 * c)) + ((0 + 1) + 1)) (A ((0 + 1) + 1)))) 105 A) 104 0 = va_up (va_up (va_up D ((1 + (3 * c)) + 0) (A 0)) ((1 + (3 * c)) + (0 + 1)) (A (0 + 1))) ((1 + (3 * c)) + ((0 + 1) + 1)) (A ((0 + 1) + 1)) 0 from rfl]
  rw [show (va_up (va_up (va_up D ((1 + (3 * c)) + 0) (A 0)) ((1 + (3 * c)) + (0 + 1)) (A (0 + 1))) ((1 + (3 * c)) + ((0 + 1) + 1)) (A ((0 + 1) + 1)) 0) = (nI c) from (by rw [va_up_ne _ _ (by omega), va_up_ne _ _ (by omega), va_up_ne _ _ (by omega)]; exact h)]
  refine a_iconstN (a := 1) dM_keepRow_55 (by decide) ?_
  refine a_iaddN (a := c) (b := 1) dM_keepRow_56 ?_
  refine a_iastN (a := 0) dM_keepRow_57 ly_104 (by omega) (by omega) (by decide) ?_
  rw [show m_up (m_row (m_row (m_row I 95 F) 104 (va_up (va_up (va_up D ((1 + (3 * c)) + 0) (A 0)) ((1 + (3 * c)) + (0 + 1)) (A (0 + 1))) ((1 + (3 * c)) + ((0 + 1) + 1)) (A ((0 + 1) + 1)))) 105 A) 104 0 (nI (c + 1)) = (m_row (m_row (m_row I 95 F) 104 (va_up (va_up (va_up (va_up D ((1 + (3 * c)) + 0) (A 0)) ((1 + (3 * c)) + (0 + 1)) (A (0 + 1))) ((1 + (3 * c)) + ((0 + 1) + 1)) (A ((0 + 1) + 1))) 0 (nI (c + 1)))) 105 A) from (by rw [m_up_comm (by decide), m_up_r])]
  exact a_vret dM_keepRow_58 rfl ⟨rfl, (by unfold wkU; rw [show 2 + 3 * c = 1 + 3 * c + 1 by omega, show 3 + 3 * c = 1 + 3 * c + 2 by omega]; rfl), rfl, rfl⟩
theorem c_keep2_0 {S : Nat × (Nat → Int32)} {d n : Nat} {I : mI} {J : mJ} {R : mR} (hn : 122 ≤ n) (hR : m_fin R) {F D A : Nat → Int32} (h : D 0 = nI 8)  : RUN S d YM_keepRow [.ref 95, .int (nI 2), .int (nI 8)] (m_row (m_row (m_row I 95 F) 104 D) 105 A) J R n none (mRd I F D A) J R n := by
  show AW S _ YM_keepRow n n _ 0 [(0, .ref 95), (1, .int (nI 2)), (2, .int (nI 8))] [] (m_row (m_row (m_row I 95 F) 104 D) 105 A) J R n
  refine a_aload_n 0 dM_keepRow_0 rfl rfl ?_
  refine a_geta (r := 104) dM_keepRow_1 fl12_35 rfl ly_95 (by omega) (rf_95_18 hR) ?_
  refine a_iconstN (a := 0) dM_keepRow_4 (by decide) ?_
  refine a_ialdN (a := 0) dM_keepRow_5 ly_104 (by omega) (by omega) (by decide) ?_
  rw [show (m_row (m_row (m_row I 95 F) 104 D) 105 A) 104 0 = D 0 from rfl]
  rw [show (D 0) = (nI 8) from h]
  refine a_istore_n (lv' := [(3, .int (nI 8)), (0, .ref 95), (1, .int (nI 2)), (2, .int (nI 8))]) dM_keepRow_6 rfl (by decide) rfl ?_
  refine a_iload_n 0 dM_keepRow_7 rfl rfl ?_
  refine a_iload_n 3 dM_keepRow_8 rfl rfl ?_
  refine a_icmp_neN (tgt := 13) dM_keepRow_9 (by decide) (by omega) (by omega) (fun c => False.elim (by omega)) (fun _ => ?_)
  exact a_vret dM_keepRow_12 rfl ⟨rfl, rfl, rfl, rfl⟩
theorem c_keep2_1 {S : Nat × (Nat → Int32)} {d n : Nat} {I : mI} {J : mJ} {R : mR} (hn : 122 ≤ n) (hR : m_fin R) {F D A : Nat → Int32} {c : Nat} (h : D 0 = nI c) (hc : c < 8)  : RUN S d YM_keepRow [.ref 95, .int (nI 2), .int (nI 8)] (m_row (m_row (m_row I 95 F) 104 D) 105 A) J R n none (mRd I F (lgU D c (A 0) (A 1)) A) J R n := by
  show AW S _ YM_keepRow n n _ 0 [(0, .ref 95), (1, .int (nI 2)), (2, .int (nI 8))] [] (m_row (m_row (m_row I 95 F) 104 D) 105 A) J R n
  refine a_aload_n 0 dM_keepRow_0 rfl rfl ?_
  refine a_geta (r := 104) dM_keepRow_1 fl12_35 rfl ly_95 (by omega) (rf_95_18 hR) ?_
  refine a_iconstN (a := 0) dM_keepRow_4 (by decide) ?_
  refine a_ialdN (a := 0) dM_keepRow_5 ly_104 (by omega) (by omega) (by decide) ?_
  rw [show (m_row (m_row (m_row I 95 F) 104 D) 105 A) 104 0 = D 0 from rfl]
  rw [show (D 0) = (nI c) from h]
  refine a_istore_n (lv' := [(3, .int (nI c)), (0, .ref 95), (1, .int (nI 2)), (2, .int (nI 8))]) dM_keepRow_6 rfl (by decide) rfl ?_
  refine a_iload_n 0 dM_keepRow_7 rfl rfl ?_
  refine a_iload_n 3 dM_keepRow_8 rfl rfl ?_
  refine a_icmp_neN (tgt := 13) dM_keepRow_9 (by decide) (by omega) (by omega) (fun _ => ?_) (fun c => False.elim (by omega))
  refine a_iconstN (a := 0) dM_keepRow_13 (by decide) ?_
  refine a_istore (lv' := [(4, .int (nI 0)), (3, .int (nI c)), (0, .ref 95), (1, .int (nI 2)), (2, .int (nI 8))]) dM_keepRow_14 (by decide) rfl ?_
  refine a_iload 0 dM_keepRow_16 rfl ?_
  refine a_iload_n 3 dM_keepRow_18 rfl rfl ?_
  refine a_icmp_geN (tgt := 48) dM_keepRow_19 (by decide) (by omega) (by omega) (fun c => False.elim (by omega)) (fun _ => ?_)
  refine a_aload_n 2 dM_keepRow_22 rfl rfl ?_
  refine a_geta (r := 104) dM_keepRow_23 fl12_35 rfl ly_95 (by omega) (rf_95_18 hR) ?_
  refine a_iconstN (a := 1) dM_keepRow_26 (by decide) ?_
  refine a_iload_n 3 dM_keepRow_27 rfl rfl ?_
  refine a_iload_n 1 dM_keepRow_28 rfl rfl ?_
  refine a_imulN (a := 2) (b := c) dM_keepRow_29 ?_
  refine a_iaddN (a := 1) (b := (2 * c)) dM_keepRow_30 ?_
  refine a_iload 0 dM_keepRow_31 rfl ?_
  refine a_iaddN (a := (1 + (2 * c))) (b := 0) dM_keepRow_33 ?_
  refine a_aload_n 2 dM_keepRow_34 rfl rfl ?_
  refine a_geta (r := 105) dM_keepRow_35 fl12_38 rfl ly_95 (by omega) (rf_95_19 hR) ?_
  refine a_iload 0 dM_keepRow_38 rfl ?_
  refine a_ialdN (a := 0) dM_keepRow_40 ly_105 (by omega) (by omega) (by decide) ?_
  rw [show (m_row (m_row (m_row I 95 F) 104 D) 105 A) 105 0 = A 0 from rfl]
  refine a_iastN (a := ((1 + (2 * c)) + 0)) dM_keepRow_41 ly_104 (by omega) (by omega) (by decide) ?_
  rw [show m_up (m_row (m_row (m_row I 95 F) 104 D) 105 A) 104 ((1 + (2 * c)) + 0) (A 0) = (m_row (m_row (m_row I 95 F) 104 (va_up D ((1 + (2 * c)) + 0) (A 0))) 105 A) from (by rw [m_up_comm (by decide), m_up_r])]
  refine a_iincN (lv' := [(4, .int (nI (0 + 1))), (3, .int (nI c)), (0, .ref 95), (1, .int (nI 2)), (2, .int (nI 8))]) (j := 0) dM_keepRow_42 rfl (by decide) rfl ?_
  refine a_goto (tgt := 16) dM_keepRow_45 (by decide) ?_
  refine a_iload 0 dM_keepRow_16 rfl ?_
  refine a_iload_n 3 dM_keepRow_18 rfl rfl ?_
  refine a_icmp_geN (tgt := 48) dM_keepRow_19 (by decide) (by omega) (by omega) (fun c => False.elim (by omega)) (fun _ => ?_)
  refine a_aload_n 2 dM_keepRow_22 rfl rfl ?_
  refine a_geta (r := 104) dM_keepRow_23 fl12_35 rfl ly_95 (by omega) (rf_95_18 hR) ?_
  refine a_iconstN (a := 1) dM_keepRow_26 (by decide) ?_
  refine a_iload_n 3 dM_keepRow_27 rfl rfl ?_
  refine a_iload_n 1 dM_keepRow_28 rfl rfl ?_
  refine a_imulN (a := 2) (b := c) dM_keepRow_29 ?_
  refine a_iaddN (a := 1) (b := (2 * c)) dM_keepRow_30 ?_
  refine a_iload 0 dM_keepRow_31 rfl ?_
  refine a_iaddN (a := (1 + (2 * c))) (b := (0 + 1)) dM_keepRow_33 ?_
  refine a_aload_n 2 dM_keepRow_34 rfl rfl ?_
  refine a_geta (r := 105) dM_keepRow_35 fl12_38 rfl ly_95 (by omega) (rf_95_19 hR) ?_
  refine a_iload 0 dM_keepRow_38 rfl ?_
  refine a_ialdN (a := (0 + 1)) dM_keepRow_40 ly_105 (by omega) (by omega) (by decide) ?_
  rw [show (m_row (m_row (m_row I 95 F) 104 (va_up D ((1 + (2 * c)) + 0) (A 0))) 105 A) 105 (0 + 1) = A (0 + 1) from rfl]
  refine a_iastN (a := ((1 + (2 * c)) + (0 + 1))) dM_keepRow_41 ly_104 (by omega) (by omega) (by decide) ?_
  rw [show m_up (m_row (m_row (m_row I 95 F) 104 (va_up D ((1 + (2 * c)) + 0) (A 0))) 105 A) 104 ((1 + (2 * c)) + (0 + 1)) (A (0 + 1)) = (m_row (m_row (m_row I 95 F) 104 (va_up (va_up D ((1 + (2 * c)) + 0) (A 0)) ((1 + (2 * c)) + (0 + 1)) (A (0 + 1)))) 105 A) from (by rw [m_up_comm (by decide), m_up_r])]
  refine a_iincN (lv' := [(4, .int (nI ((0 + 1) + 1))), (3, .int (nI c)), (0, .ref 95), (1, .int (nI 2)), (2, .int (nI 8))]) (j := 0) dM_keepRow_42 rfl (by decide) rfl ?_
  refine a_goto (tgt := 16) dM_keepRow_45 (by decide) ?_
  refine a_iload 0 dM_keepRow_16 rfl ?_
  refine a_iload_n 3 dM_keepRow_18 rfl rfl ?_
  refine a_icmp_geN (tgt := 48) dM_keepRow_19 (by decide) (by omega) (by omega) (fun _ => ?_) (fun c => False.elim (by omega))
  refine a_aload_n 2 dM_keepRow_48 rfl rfl ?_
  refine a_geta (r := 104) dM_keepRow_49 fl12_35 rfl ly_95 (by omega) (rf_95_18 hR) ?_
  refine a_iconstN (a := 0) dM_keepRow_52 (by decide) ?_
  refine a_dup2 dM_keepRow_53 rfl rfl ?_
  refine a_ialdN (a := 0) dM_keepRow_54 ly_104 (by omega) (by omega) (by decide) ?_
  rw [show (m_row (m_row (m_row I 95 F) 104 (va_up (va_up D ((1 + (2 * c)) + 0) (A 0)) ((1 + (2 * c)) + (0 + 1)) (A (0 + 1)))) 105 A) 104 0 = va_up (va_up D ((1 + (2 * c)) + 0) (A 0)) ((1 + (2 * c)) + (0 + 1)) (A (0 + 1)) 0 from rfl]
  rw [show (va_up (va_up D ((1 + (2 * c)) + 0) (A 0)) ((1 + (2 * c)) + (0 + 1)) (A (0 + 1)) 0) = (nI c) from (by rw [va_up_ne _ _ (by omega), va_up_ne _ _ (by omega)]; exact h)]
  refine a_iconstN (a := 1) dM_keepRow_55 (by decide) ?_
  refine a_iaddN (a := c) (b := 1) dM_keepRow_56 ?_
  refine a_iastN (a := 0) dM_keepRow_57 ly_104 (by omega) (by omega) (by decide) ?_
  rw [show m_up (m_row (m_row (m_row I 95 F) 104 (va_up (va_up D ((1 + (2 * c)) + 0) (A 0)) ((1 + (2 * c)) + (0 + 1)) (A (0 + 1)))) 105 A) 104 0 (nI (c + 1)) = (m_row (m_row (m_row I 95 F) 104 (va_up (va_up (va_up D ((1 + (2 * c)) + 0) (A 0)) ((1 + (2 * c)) + (0 + 1)) (A (0 + 1))) 0 (nI (c + 1)))) 105 A) from (by rw [m_up_comm (by decide), m_up_r])]
  exact a_vret dM_keepRow_58 rfl ⟨rfl, (by unfold lgU; rw [show 2 + 2 * c = 1 + 2 * c + 1 by omega]; rfl), rfl, rfl⟩
