theorem r_law {S : Nat × (Nat → Int32)} {d n : Nat} {I : mI} {J : mJ} {R : mR} (hn : 122 ≤ n) (hR : m_fin R) {len : Nat} (hl6 : len ≤ 600) (hby : byT (I 96) len) {p : Nat} (hp : p ≤ len) {x : Nat × Nat} {gh gl : Int32} {F D A : Nat → Int32} (hS : RS (I 96) len p x gh gl 1 F) {at9 nw : Nat} (hat : at9 < p) (ha6 : at9 < 1000) (hxa : ¬ x.1 = 0 → x.2 < at9) (hD2 : D 2 = nI nw) (hw : nw ≤ 8)  : AW S (d + 5) YM_lawLine n n (lq I J R len [true, true, false] p (s1 (s1 x (decide (D ((59 + (4 * (kN (I 96) len p))) + (kN (I 96) len (tkE (I 96) len p))) = -1) && decide (D 2 = nI 8)) (3, at9)) (bdB (vN (I 96) len (tkE (I 96) len (tkE (I 96) len p))) 0 9) (2, (tkB (I 96) len (tkE (I 96) len (tkE (I 96) len p))))) gh gl (if D ((59 + (4 * (kN (I 96) len p))) + (kN (I 96) len (tkE (I 96) len p))) = -1 then (if nw < 8 then va_up (va_up D ((59 + (4 * (kN (I 96) len p))) + (kN (I 96) len (tkE (I 96) len p))) (nI (vN (I 96) len (tkE (I 96) len (tkE (I 96) len p))))) 2 (nI (nw + 1)) else D) else va_up (va_up D ((59 + (4 * (kN (I 96) len p))) + (kN (I 96) len (tkE (I 96) len p))) (nI (vN (I 96) len (tkE (I 96) len (tkE (I 96) len p))))) 2 (nI (nw + 0)))) 0 [(0, .ref 95), (1, .int (nI at9))] [] (m_row (m_row (m_row I 95 F) 104 D) 105 A) (m_up J 95 14 (tkW (I 96) len p)) R n := by
  have q0 : p ≤ len := hp
  have hb0 := tkB_le (T := I 96) hp
  have he0 := tkE_le (T := I 96) hp
  have hb1 := tkB_le (T := I 96) he0.2
  have he1 := tkE_le (T := I 96) he0.2
  have hat2 : at9 < (tkE (I 96) len (tkE (I 96) len p)) := by omega
  refine a_aload_n 0 dM_lawLine_0 rfl rfl ?_
  refine a_iconstN (a := 0) dM_lawLine_1 (by decide) ?_
  by_cases t0 : ¬ kI (I 96) len p = -1
  · have q1 : (tkE (I 96) len p) ≤ len := (tkE_le (T := I 96) q0).2
    refine a_callV (Q' := (tq1 I J R len (tkE (I 96) len p) x gh gl 1 D (va_up A 0 (nI (kN (I 96) len p))))) (as := [.int (nI 0)]) (st := []) dM_lawLine_2 ml12_186 rfl (Nat.le_of_ble_eq_true rfl) ly_95 rfl rfl (by decide) (by omega) (Nat.le_of_ble_eq_true rfl) rfl (Nat.le_refl _) (Nat.le_refl _) (r_takeKind1 (D := D) (A := A) hn hR hl6 hby q0 hS (by decide) t0) ?_
    intro v9 I9 J9 R9 ⟨e1, e2, e3, F1, hS1, e4⟩
    rw [e1, e2, e3, e4]
    show AW _ _ _ _ _ _ _ _ [.int 1] (m_row (m_row (m_row I 95 F1) 104 D) 105 (va_up A 0 (nI (kN (I 96) len p)))) _ _ _
    refine a_if_eq (tgt := 16) dM_lawLine_5 (by decide) (fun c => False.elim (absurd c (by decide))) (fun _ => ?_)
    refine a_aload_n 0 dM_lawLine_8 rfl rfl ?_
    refine a_iconstN (a := 1) dM_lawLine_9 (by decide) ?_
    by_cases t1 : ¬ kI (I 96) len (tkE (I 96) len p) = -1
    · have w0 := kN_of t0
      have w1 := kN_of t1
      have q2 : (tkE (I 96) len (tkE (I 96) len p)) ≤ len := (tkE_le (T := I 96) q1).2
      refine a_callV (Q' := (tq1 I J R len (tkE (I 96) len (tkE (I 96) len p)) x gh gl 1 D (va_up (va_up A 0 (nI (kN (I 96) len p))) 1 (nI (kN (I 96) len (tkE (I 96) len p)))))) (as := [.int (nI 1)]) (st := []) dM_lawLine_10 ml12_186 rfl (Nat.le_of_ble_eq_true rfl) ly_95 rfl rfl (by decide) (by omega) (Nat.le_of_ble_eq_true rfl) rfl (Nat.le_refl _) (Nat.le_refl _) (r_takeKind1 (D := D) (A := (va_up A 0 (nI (kN (I 96) len p)))) hn hR hl6 hby q1 hS1 (by decide) t1) ?_
      intro v9 I9 J9 R9 ⟨e1, e2, e3, F2, hS2, e4⟩
      rw [e1, e2, e3, e4]
      show AW _ _ _ _ _ _ _ _ [.int 1] (m_row (m_row (m_row I 95 F2) 104 D) 105 (va_up (va_up A 0 (nI (kN (I 96) len p))) 1 (nI (kN (I 96) len (tkE (I 96) len p))))) _ _ _
      refine a_if_ne (tgt := 18) dM_lawLine_13 (by decide) (fun _ => ?_) (fun c => False.elim (absurd c (by decide)))
      refine a_bipushN (a := 59) dM_lawLine_18 (by decide) ?_
      refine a_iconstN (a := 4) dM_lawLine_20 (by decide) ?_
      refine a_aload_n 0 dM_lawLine_21 rfl rfl ?_
      refine a_geta (r := 105) dM_lawLine_22 fl12_38 rfl ly_95 (by omega) (rf_95_19 hR) ?_
      refine a_iconstN (a := 0) dM_lawLine_25 (by decide) ?_
      refine a_ialdN (a := 0) dM_lawLine_26 ly_105 (by omega) (by omega) (by decide) ?_
      rw [show (m_row (m_row (m_row I 95 F2) 104 D) 105 (va_up (va_up A 0 (nI (kN (I 96) len p))) 1 (nI (kN (I 96) len (tkE (I 96) len p))))) 105 0 = (nI (kN (I 96) len p)) from rfl]
      refine a_imulN (a := 4) (b := (kN (I 96) len p)) dM_lawLine_27 ?_
      refine a_iaddN (a := 59) (b := (4 * (kN (I 96) len p))) dM_lawLine_28 ?_
      refine a_aload_n 0 dM_lawLine_29 rfl rfl ?_
      refine a_geta (r := 105) dM_lawLine_30 fl12_38 rfl ly_95 (by omega) (rf_95_19 hR) ?_
      refine a_iconstN (a := 1) dM_lawLine_33 (by decide) ?_
      refine a_ialdN (a := 1) dM_lawLine_34 ly_105 (by omega) (by omega) (by decide) ?_
      rw [show (m_row (m_row (m_row I 95 F2) 104 D) 105 (va_up (va_up A 0 (nI (kN (I 96) len p))) 1 (nI (kN (I 96) len (tkE (I 96) len p))))) 105 1 = (nI (kN (I 96) len (tkE (I 96) len p))) from rfl]
      refine a_iaddN (a := (59 + (4 * (kN (I 96) len p)))) (b := (kN (I 96) len (tkE (I 96) len p))) dM_lawLine_35 ?_
      refine a_istore_n (lv' := [(2, .int (nI ((59 + (4 * (kN (I 96) len p))) + (kN (I 96) len (tkE (I 96) len p))))), (0, .ref 95), (1, .int (nI at9))]) dM_lawLine_36 rfl (by decide) rfl ?_
      refine a_aload_n 1 dM_lawLine_37 rfl rfl ?_
      refine a_geta (r := 104) dM_lawLine_38 fl12_35 rfl ly_95 (by omega) (rf_95_18 hR) ?_
      refine a_iload_n 0 dM_lawLine_41 rfl rfl ?_
      refine a_ialdN (a := ((59 + (4 * (kN (I 96) len p))) + (kN (I 96) len (tkE (I 96) len p)))) dM_lawLine_42 ly_104 (by omega) (by omega) (by decide) ?_
      rw [show (m_row (m_row (m_row I 95 F2) 104 D) 105 (va_up (va_up A 0 (nI (kN (I 96) len p))) 1 (nI (kN (I 96) len (tkE (I 96) len p))))) 104 ((59 + (4 * (kN (I 96) len p))) + (kN (I 96) len (tkE (I 96) len p))) = D ((59 + (4 * (kN (I 96) len p))) + (kN (I 96) len (tkE (I 96) len p))) from rfl]
      refine a_iconst (v := -1) dM_lawLine_43 (by decide) ?_
      by_cases nn : D ((59 + (4 * (kN (I 96) len p))) + (kN (I 96) len (tkE (I 96) len p))) = -1
      · by_cases n8 : D 2 = nI 8
        · have htb : (decide (D ((59 + (4 * (kN (I 96) len p))) + (kN (I 96) len (tkE (I 96) len p))) = -1) && decide (D 2 = nI 8)) = true := by rw [decide_eq_true nn, decide_eq_true n8]; rfl
          have hw8 : nw = 8 := by rw [hD2] at n8; exact (nI_eq (by omega) (by decide)).mp n8
          have hS2b := RS_lt (f := 3) (by decide) hat2 hS2
          refine a_icmp_ne (tgt := 51) dM_lawLine_44 (by decide) (fun c => False.elim (c nn)) (fun _ => ?_)
          refine a_iconstN (a := 1) dM_lawLine_47 (by decide) ?_
          refine a_goto (tgt := 52) dM_lawLine_48 (by decide) ?_
          refine a_istore_n (lv' := [(3, .int (nI 1)), (2, .int (nI ((59 + (4 * (kN (I 96) len p))) + (kN (I 96) len (tkE (I 96) len p))))), (0, .ref 95), (1, .int (nI at9))]) dM_lawLine_52 rfl (by decide) rfl ?_
          refine a_iload_n 0 dM_lawLine_53 rfl rfl ?_
          refine a_if_eq (tgt := 65) dM_lawLine_54 (by decide) (fun c => False.elim (absurd c (by decide))) (fun _ => ?_)
          refine a_aload_n 2 dM_lawLine_57 rfl rfl ?_
          refine a_iconstN (a := 2) dM_lawLine_58 (by decide) ?_
          refine a_bipushN (a := 8) dM_lawLine_59 (by decide) ?_
          refine a_iload_n 3 dM_lawLine_61 rfl rfl ?_
          refine a_callV (Q' := m_res none (m_row (m_row (m_row I 95 (ltF x F2 3 at9)) 104 D) 105 (va_up (va_up A 0 (nI (kN (I 96) len p))) 1 (nI (kN (I 96) len (tkE (I 96) len p))))) (m_up J 95 14 (tkW (I 96) len (tkE (I 96) len (tkE (I 96) len p)))) R) (as := [.int (nI 2), .int (nI 8), .int (nI at9)]) (st := []) dM_lawLine_62 ml12_189 rfl (Nat.le_of_ble_eq_true rfl) ly_95 rfl rfl (by decide) (by omega) (Nat.le_of_ble_eq_true rfl) rfl (Nat.le_refl _) (Nat.le_refl _) (c_full1 hn hR (by decide) hS2.f5 hS2.h16 hS2.h17 (by omega) hxa n8) (m_go ?_)
          show AW _ _ _ _ _ _ _ _ [] _ _ _ _
          refine a_aload_n 2 dM_lawLine_65 rfl rfl ?_
          refine a_iconstN (a := 2) dM_lawLine_66 (by decide) ?_
          refine a_iconstN (a := 0) dM_lawLine_67 (by decide) ?_
          refine a_bipushN (a := 9) dM_lawLine_68 (by decide) ?_
          by_cases t2 : tkS (I 96) len (tkE (I 96) len (tkE (I 96) len p)) = 2
          · have q3 : (tkE (I 96) len (tkE (I 96) len (tkE (I 96) len p))) ≤ len := (tkE_le (T := I 96) q2).2
            refine a_callV (Q' := (tq1 I J R len (tkE (I 96) len (tkE (I 96) len (tkE (I 96) len p))) (s1 (s1 x true (3, at9)) (bdB (vN (I 96) len (tkE (I 96) len (tkE (I 96) len p))) 0 9) (2, (tkB (I 96) len (tkE (I 96) len (tkE (I 96) len p))))) gh gl (if (bdB (vN (I 96) len (tkE (I 96) len (tkE (I 96) len p))) 0 9) = true then 0 else 1) D (va_up (va_up (va_up A 0 (nI (kN (I 96) len p))) 1 (nI (kN (I 96) len (tkE (I 96) len p)))) 2 (nI (vN (I 96) len (tkE (I 96) len (tkE (I 96) len p))))))) (as := [.int (nI 2), .int (nI 0), .int (nI 9)]) (st := []) dM_lawLine_70 ml12_161 rfl (Nat.le_of_ble_eq_true rfl) ly_95 rfl rfl (by decide) (by omega) (Nat.le_of_ble_eq_true rfl) rfl (Nat.le_refl _) (Nat.le_refl _) (r_take1 (D := D) (A := (va_up (va_up A 0 (nI (kN (I 96) len p))) 1 (nI (kN (I 96) len (tkE (I 96) len p))))) hn hR hl6 hby q2 hS2b (by decide) (by decide) (by decide) t2) ?_
            intro v9 I9 J9 R9 ⟨e1, e2, e3, F3, hS3, e4⟩
            rw [e1, e2, e3, e4]
            show AW _ _ _ _ _ _ _ _ [.int 1] (m_row (m_row (m_row I 95 F3) 104 D) 105 (va_up (va_up (va_up A 0 (nI (kN (I 96) len p))) 1 (nI (kN (I 96) len (tkE (I 96) len p)))) 2 (nI (vN (I 96) len (tkE (I 96) len (tkE (I 96) len p)))))) _ _ _
            refine a_if_ne (tgt := 78) dM_lawLine_73 (by decide) (fun _ => ?_) (fun c => False.elim (absurd c (by decide)))
            refine a_iload_n 0 dM_lawLine_78 rfl rfl ?_
            refine a_if_eq (tgt := 93) dM_lawLine_79 (by decide) (fun c => False.elim (absurd c (by decide))) (fun _ => ?_)
            refine a_aload_n 2 dM_lawLine_82 rfl rfl ?_
            refine a_geta (r := 104) dM_lawLine_83 fl12_35 rfl ly_95 (by omega) (rf_95_18 hR) ?_
            refine a_iconstN (a := 2) dM_lawLine_86 (by decide) ?_
            refine a_ialdN (a := 2) dM_lawLine_87 ly_104 (by omega) (by omega) (by decide) ?_
            rw [show (m_row (m_row (m_row I 95 F3) 104 D) 105 (va_up (va_up (va_up A 0 (nI (kN (I 96) len p))) 1 (nI (kN (I 96) len (tkE (I 96) len p)))) 2 (nI (vN (I 96) len (tkE (I 96) len (tkE (I 96) len p)))))) 104 2 = (nI nw) from hD2]
            refine a_bipushN (a := 8) dM_lawLine_88 (by decide) ?_
            refine a_icmp_geN (tgt := 123) dM_lawLine_90 (by decide) (by omega) (by omega) (fun _ => ?_) (fun c => False.elim (by omega))
            refine a_iconstN (a := 1) dM_lawLine_123 (by decide) ?_
            exact a_zret dM_lawLine_124 rfl (by rfl) (by rw [lq, ms0_k t0, ms0_k t1, ms0_n t2, ms0_e]; rw [htb, if_pos nn, if_neg (show ¬ nw < 8 by omega)]; exact ⟨rfl, Or.inr ⟨rfl, rfl, rfl, _, _, _, hS3, rfl⟩⟩)
          ·
            refine a_callV (Q' := (tq0 I J R (tkB (I 96) len (tkE (I 96) len (tkE (I 96) len p))) D (va_up (va_up A 0 (nI (kN (I 96) len p))) 1 (nI (kN (I 96) len (tkE (I 96) len p)))))) (as := [.int (nI 2), .int (nI 0), .int (nI 9)]) (st := []) dM_lawLine_70 ml12_161 rfl (Nat.le_of_ble_eq_true rfl) ly_95 rfl rfl (by decide) (by omega) (Nat.le_of_ble_eq_true rfl) rfl (Nat.le_refl _) (Nat.le_refl _) (r_take0 (D := D) (A := (va_up (va_up A 0 (nI (kN (I 96) len p))) 1 (nI (kN (I 96) len (tkE (I 96) len p))))) hn hR hl6 hby q2 hS2b t2) ?_
            intro v9 I9 J9 R9 ⟨e1, ⟨w9, e2⟩, e3, F9, h15, e4⟩
            rw [e1, e2, e3, e4]
            show AW _ _ _ _ _ _ _ _ [.int 0] (m_row (m_row (m_row I 95 F9) 104 D) 105 (va_up (va_up A 0 (nI (kN (I 96) len p))) 1 (nI (kN (I 96) len (tkE (I 96) len p))))) _ _ _
            refine a_if_ne (tgt := 78) dM_lawLine_73 (by decide) (fun c => False.elim (c rfl)) (fun _ => ?_)
            refine a_iconstN (a := 0) dM_lawLine_76 (by decide) ?_
            exact a_zret dM_lawLine_77 rfl (by rfl) ⟨rfl, Or.inl ⟨rfl, by rw [ms0_k t0, ms0_k t1, ms0_n0 t2], ⟨_, rfl⟩, _, _, _, by rw [ms0_k t0, ms0_k t1, ms0_n0 t2]; exact h15, rfl⟩⟩
        · have htb : (decide (D ((59 + (4 * (kN (I 96) len p))) + (kN (I 96) len (tkE (I 96) len p))) = -1) && decide (D 2 = nI 8)) = false := by rw [decide_eq_false n8, Bool.and_false]
          have hw8 : nw < 8 := by
            rcases Nat.lt_or_ge nw 8 with q | q
            · exact q
            · exact absurd (by rw [hD2]; congr 1; omega) n8
          refine a_icmp_ne (tgt := 51) dM_lawLine_44 (by decide) (fun c => False.elim (c nn)) (fun _ => ?_)
          refine a_iconstN (a := 1) dM_lawLine_47 (by decide) ?_
          refine a_goto (tgt := 52) dM_lawLine_48 (by decide) ?_
          refine a_istore_n (lv' := [(3, .int (nI 1)), (2, .int (nI ((59 + (4 * (kN (I 96) len p))) + (kN (I 96) len (tkE (I 96) len p))))), (0, .ref 95), (1, .int (nI at9))]) dM_lawLine_52 rfl (by decide) rfl ?_
          refine a_iload_n 0 dM_lawLine_53 rfl rfl ?_
          refine a_if_eq (tgt := 65) dM_lawLine_54 (by decide) (fun c => False.elim (absurd c (by decide))) (fun _ => ?_)
          refine a_aload_n 2 dM_lawLine_57 rfl rfl ?_
          refine a_iconstN (a := 2) dM_lawLine_58 (by decide) ?_
          refine a_bipushN (a := 8) dM_lawLine_59 (by decide) ?_
          refine a_iload_n 3 dM_lawLine_61 rfl rfl ?_
          refine a_callV (Q' := m_res none (m_row (m_row (m_row I 95 F2) 104 D) 105 (va_up (va_up A 0 (nI (kN (I 96) len p))) 1 (nI (kN (I 96) len (tkE (I 96) len p))))) (m_up J 95 14 (tkW (I 96) len (tkE (I 96) len (tkE (I 96) len p)))) R) (as := [.int (nI 2), .int (nI 8), .int (nI at9)]) (st := []) dM_lawLine_62 ml12_189 rfl (Nat.le_of_ble_eq_true rfl) ly_95 rfl rfl (by decide) (by omega) (Nat.le_of_ble_eq_true rfl) rfl (Nat.le_refl _) (Nat.le_refl _) (c_full0 hn hR (by decide) n8) (m_go ?_)
          show AW _ _ _ _ _ _ _ _ [] _ _ _ _
          refine a_aload_n 2 dM_lawLine_65 rfl rfl ?_
          refine a_iconstN (a := 2) dM_lawLine_66 (by decide) ?_
          refine a_iconstN (a := 0) dM_lawLine_67 (by decide) ?_
          refine a_bipushN (a := 9) dM_lawLine_68 (by decide) ?_
          by_cases t2 : tkS (I 96) len (tkE (I 96) len (tkE (I 96) len p)) = 2
          · have q3 : (tkE (I 96) len (tkE (I 96) len (tkE (I 96) len p))) ≤ len := (tkE_le (T := I 96) q2).2
            refine a_callV (Q' := (tq1 I J R len (tkE (I 96) len (tkE (I 96) len (tkE (I 96) len p))) (s1 x (bdB (vN (I 96) len (tkE (I 96) len (tkE (I 96) len p))) 0 9) (2, (tkB (I 96) len (tkE (I 96) len (tkE (I 96) len p))))) gh gl (if (bdB (vN (I 96) len (tkE (I 96) len (tkE (I 96) len p))) 0 9) = true then 0 else 1) D (va_up (va_up (va_up A 0 (nI (kN (I 96) len p))) 1 (nI (kN (I 96) len (tkE (I 96) len p)))) 2 (nI (vN (I 96) len (tkE (I 96) len (tkE (I 96) len p))))))) (as := [.int (nI 2), .int (nI 0), .int (nI 9)]) (st := []) dM_lawLine_70 ml12_161 rfl (Nat.le_of_ble_eq_true rfl) ly_95 rfl rfl (by decide) (by omega) (Nat.le_of_ble_eq_true rfl) rfl (Nat.le_refl _) (Nat.le_refl _) (r_take1 (D := D) (A := (va_up (va_up A 0 (nI (kN (I 96) len p))) 1 (nI (kN (I 96) len (tkE (I 96) len p))))) hn hR hl6 hby q2 hS2 (by decide) (by decide) (by decide) t2) ?_
            intro v9 I9 J9 R9 ⟨e1, e2, e3, F3, hS3, e4⟩
            rw [e1, e2, e3, e4]
            show AW _ _ _ _ _ _ _ _ [.int 1] (m_row (m_row (m_row I 95 F3) 104 D) 105 (va_up (va_up (va_up A 0 (nI (kN (I 96) len p))) 1 (nI (kN (I 96) len (tkE (I 96) len p)))) 2 (nI (vN (I 96) len (tkE (I 96) len (tkE (I 96) len p)))))) _ _ _
            refine a_if_ne (tgt := 78) dM_lawLine_73 (by decide) (fun _ => ?_) (fun c => False.elim (absurd c (by decide)))
            refine a_iload_n 0 dM_lawLine_78 rfl rfl ?_
            refine a_if_eq (tgt := 93) dM_lawLine_79 (by decide) (fun c => False.elim (absurd c (by decide))) (fun _ => ?_)
            refine a_aload_n 2 dM_lawLine_82 rfl rfl ?_
            refine a_geta (r := 104) dM_lawLine_83 fl12_35 rfl ly_95 (by omega) (rf_95_18 hR) ?_
            refine a_iconstN (a := 2) dM_lawLine_86 (by decide) ?_
            refine a_ialdN (a := 2) dM_lawLine_87 ly_104 (by omega) (by omega) (by decide) ?_
            rw [show (m_row (m_row (m_row I 95 F3) 104 D) 105 (va_up (va_up (va_up A 0 (nI (kN (I 96) len p))) 1 (nI (kN (I 96) len (tkE (I 96) len p)))) 2 (nI (vN (I 96) len (tkE (I 96) len (tkE (I 96) len p)))))) 104 2 = (nI nw) from hD2]
            refine a_bipushN (a := 8) dM_lawLine_88 (by decide) ?_
            refine a_icmp_geN (tgt := 123) dM_lawLine_90 (by decide) (by omega) (by omega) (fun c => False.elim (by omega)) (fun _ => ?_)
            refine a_aload_n 2 dM_lawLine_93 rfl rfl ?_
            refine a_geta (r := 104) dM_lawLine_94 fl12_35 rfl ly_95 (by omega) (rf_95_18 hR) ?_
            refine a_iload_n 1 dM_lawLine_97 rfl rfl ?_
            refine a_aload_n 2 dM_lawLine_98 rfl rfl ?_
            refine a_geta (r := 105) dM_lawLine_99 fl12_38 rfl ly_95 (by omega) (rf_95_19 hR) ?_
            refine a_iconstN (a := 2) dM_lawLine_102 (by decide) ?_
            refine a_ialdN (a := 2) dM_lawLine_103 ly_105 (by omega) (by omega) (by decide) ?_
            rw [show (m_row (m_row (m_row I 95 F3) 104 D) 105 (va_up (va_up (va_up A 0 (nI (kN (I 96) len p))) 1 (nI (kN (I 96) len (tkE (I 96) len p)))) 2 (nI (vN (I 96) len (tkE (I 96) len (tkE (I 96) len p)))))) 105 2 = (nI (vN (I 96) len (tkE (I 96) len (tkE (I 96) len p)))) from (by rw [m_row_eq]; exact va_up_self _ _ _)]
            refine a_iastN (a := ((59 + (4 * (kN (I 96) len p))) + (kN (I 96) len (tkE (I 96) len p)))) dM_lawLine_104 ly_104 (by omega) (by omega) (by decide) ?_
            rw [show m_up (m_row (m_row (m_row I 95 F3) 104 D) 105 (va_up (va_up (va_up A 0 (nI (kN (I 96) len p))) 1 (nI (kN (I 96) len (tkE (I 96) len p)))) 2 (nI (vN (I 96) len (tkE (I 96) len (tkE (I 96) len p)))))) 104 ((59 + (4 * (kN (I 96) len p))) + (kN (I 96) len (tkE (I 96) len p))) (nI (vN (I 96) len (tkE (I 96) len (tkE (I 96) len p)))) = (m_row (m_row (m_row I 95 F3) 104 (va_up D ((59 + (4 * (kN (I 96) len p))) + (kN (I 96) len (tkE (I 96) len p))) (nI (vN (I 96) len (tkE (I 96) len (tkE (I 96) len p)))))) 105 (va_up (va_up (va_up A 0 (nI (kN (I 96) len p))) 1 (nI (kN (I 96) len (tkE (I 96) len p)))) 2 (nI (vN (I 96) len (tkE (I 96) len (tkE (I 96) len p)))))) from (by rw [m_up_comm (by decide), m_up_r])]
            refine a_aload_n 2 dM_lawLine_105 rfl rfl ?_
            refine a_geta (r := 104) dM_lawLine_106 fl12_35 rfl ly_95 (by omega) (rf_95_18 hR) ?_
            refine a_iconstN (a := 2) dM_lawLine_109 (by decide) ?_
            refine a_dup2 dM_lawLine_110 rfl rfl ?_
            refine a_ialdN (a := 2) dM_lawLine_111 ly_104 (by omega) (by omega) (by decide) ?_
            rw [show (m_row (m_row (m_row I 95 F3) 104 (va_up D ((59 + (4 * (kN (I 96) len p))) + (kN (I 96) len (tkE (I 96) len p))) (nI (vN (I 96) len (tkE (I 96) len (tkE (I 96) len p)))))) 105 (va_up (va_up (va_up A 0 (nI (kN (I 96) len p))) 1 (nI (kN (I 96) len (tkE (I 96) len p)))) 2 (nI (vN (I 96) len (tkE (I 96) len (tkE (I 96) len p)))))) 104 2 = (nI nw) from (by rw [m_row_ne (show (104 : Nat) ≠ 105 by decide), m_row_eq, va_up_ne _ _ (by omega)]; exact hD2)]
            refine a_iload_n 0 dM_lawLine_112 rfl rfl ?_
            refine a_if_eq (tgt := 120) dM_lawLine_113 (by decide) (fun c => False.elim (absurd c (by decide))) (fun _ => ?_)
            refine a_iconstN (a := 1) dM_lawLine_116 (by decide) ?_
            refine a_goto (tgt := 121) dM_lawLine_117 (by decide) ?_
            refine a_iaddN (a := nw) (b := 1) dM_lawLine_121 ?_
            refine a_iastN (a := 2) dM_lawLine_122 ly_104 (by omega) (by omega) (by decide) ?_
            rw [show m_up (m_row (m_row (m_row I 95 F3) 104 (va_up D ((59 + (4 * (kN (I 96) len p))) + (kN (I 96) len (tkE (I 96) len p))) (nI (vN (I 96) len (tkE (I 96) len (tkE (I 96) len p)))))) 105 (va_up (va_up (va_up A 0 (nI (kN (I 96) len p))) 1 (nI (kN (I 96) len (tkE (I 96) len p)))) 2 (nI (vN (I 96) len (tkE (I 96) len (tkE (I 96) len p)))))) 104 2 (nI (nw + 1)) = (m_row (m_row (m_row I 95 F3) 104 (va_up (va_up D ((59 + (4 * (kN (I 96) len p))) + (kN (I 96) len (tkE (I 96) len p))) (nI (vN (I 96) len (tkE (I 96) len (tkE (I 96) len p))))) 2 (nI (nw + 1)))) 105 (va_up (va_up (va_up A 0 (nI (kN (I 96) len p))) 1 (nI (kN (I 96) len (tkE (I 96) len p)))) 2 (nI (vN (I 96) len (tkE (I 96) len (tkE (I 96) len p)))))) from (by rw [m_up_comm (by decide), m_up_r])]
            refine a_iconstN (a := 1) dM_lawLine_123 (by decide) ?_
            exact a_zret dM_lawLine_124 rfl (by rfl) (by rw [lq, ms0_k t0, ms0_k t1, ms0_n t2, ms0_e]; rw [htb, s1_f, if_pos nn, if_pos hw8]; exact ⟨rfl, Or.inr ⟨rfl, rfl, rfl, _, _, _, hS3, rfl⟩⟩)
          ·
            refine a_callV (Q' := (tq0 I J R (tkB (I 96) len (tkE (I 96) len (tkE (I 96) len p))) D (va_up (va_up A 0 (nI (kN (I 96) len p))) 1 (nI (kN (I 96) len (tkE (I 96) len p)))))) (as := [.int (nI 2), .int (nI 0), .int (nI 9)]) (st := []) dM_lawLine_70 ml12_161 rfl (Nat.le_of_ble_eq_true rfl) ly_95 rfl rfl (by decide) (by omega) (Nat.le_of_ble_eq_true rfl) rfl (Nat.le_refl _) (Nat.le_refl _) (r_take0 (D := D) (A := (va_up (va_up A 0 (nI (kN (I 96) len p))) 1 (nI (kN (I 96) len (tkE (I 96) len p))))) hn hR hl6 hby q2 hS2 t2) ?_
            intro v9 I9 J9 R9 ⟨e1, ⟨w9, e2⟩, e3, F9, h15, e4⟩
            rw [e1, e2, e3, e4]
            show AW _ _ _ _ _ _ _ _ [.int 0] (m_row (m_row (m_row I 95 F9) 104 D) 105 (va_up (va_up A 0 (nI (kN (I 96) len p))) 1 (nI (kN (I 96) len (tkE (I 96) len p))))) _ _ _
            refine a_if_ne (tgt := 78) dM_lawLine_73 (by decide) (fun c => False.elim (c rfl)) (fun _ => ?_)
            refine a_iconstN (a := 0) dM_lawLine_76 (by decide) ?_
            exact a_zret dM_lawLine_77 rfl (by rfl) ⟨rfl, Or.inl ⟨rfl, by rw [ms0_k t0, ms0_k t1, ms0_n0 t2], ⟨_, rfl⟩, _, _, _, by rw [ms0_k t0, ms0_k t1, ms0_n0 t2]; exact h15, rfl⟩⟩
      · have htb : (decide (D ((59 + (4 * (kN (I 96) len p))) + (kN (I 96) len (tkE (I 96) len p))) = -1) && decide (D 2 = nI 8)) = false := by rw [decide_eq_false nn, Bool.false_and]
        refine a_icmp_ne (tgt := 51) dM_lawLine_44 (by decide) (fun _ => ?_) (fun c => False.elim (nn c))
        refine a_iconstN (a := 0) dM_lawLine_51 (by decide) ?_
        refine a_istore_n (lv' := [(3, .int (nI 0)), (2, .int (nI ((59 + (4 * (kN (I 96) len p))) + (kN (I 96) len (tkE (I 96) len p))))), (0, .ref 95), (1, .int (nI at9))]) dM_lawLine_52 rfl (by decide) rfl ?_
        refine a_iload_n 0 dM_lawLine_53 rfl rfl ?_
        refine a_if_eq (tgt := 65) dM_lawLine_54 (by decide) (fun _ => ?_) (fun c => False.elim (c rfl))
        refine a_aload_n 2 dM_lawLine_65 rfl rfl ?_
        refine a_iconstN (a := 2) dM_lawLine_66 (by decide) ?_
        refine a_iconstN (a := 0) dM_lawLine_67 (by decide) ?_
        refine a_bipushN (a := 9) dM_lawLine_68 (by decide) ?_
        by_cases t2 : tkS (I 96) len (tkE (I 96) len (tkE (I 96) len p)) = 2
        · have q3 : (tkE (I 96) len (tkE (I 96) len (tkE (I 96) len p))) ≤ len := (tkE_le (T := I 96) q2).2
          refine a_callV (Q' := (tq1 I J R len (tkE (I 96) len (tkE (I 96) len (tkE (I 96) len p))) (s1 x (bdB (vN (I 96) len (tkE (I 96) len (tkE (I 96) len p))) 0 9) (2, (tkB (I 96) len (tkE (I 96) len (tkE (I 96) len p))))) gh gl (if (bdB (vN (I 96) len (tkE (I 96) len (tkE (I 96) len p))) 0 9) = true then 0 else 1) D (va_up (va_up (va_up A 0 (nI (kN (I 96) len p))) 1 (nI (kN (I 96) len (tkE (I 96) len p)))) 2 (nI (vN (I 96) len (tkE (I 96) len (tkE (I 96) len p))))))) (as := [.int (nI 2), .int (nI 0), .int (nI 9)]) (st := []) dM_lawLine_70 ml12_161 rfl (Nat.le_of_ble_eq_true rfl) ly_95 rfl rfl (by decide) (by omega) (Nat.le_of_ble_eq_true rfl) rfl (Nat.le_refl _) (Nat.le_refl _) (r_take1 (D := D) (A := (va_up (va_up A 0 (nI (kN (I 96) len p))) 1 (nI (kN (I 96) len (tkE (I 96) len p))))) hn hR hl6 hby q2 hS2 (by decide) (by decide) (by decide) t2) ?_
          intro v9 I9 J9 R9 ⟨e1, e2, e3, F3, hS3, e4⟩
          rw [e1, e2, e3, e4]
          show AW _ _ _ _ _ _ _ _ [.int 1] (m_row (m_row (m_row I 95 F3) 104 D) 105 (va_up (va_up (va_up A 0 (nI (kN (I 96) len p))) 1 (nI (kN (I 96) len (tkE (I 96) len p)))) 2 (nI (vN (I 96) len (tkE (I 96) len (tkE (I 96) len p)))))) _ _ _
          refine a_if_ne (tgt := 78) dM_lawLine_73 (by decide) (fun _ => ?_) (fun c => False.elim (absurd c (by decide)))
          refine a_iload_n 0 dM_lawLine_78 rfl rfl ?_
          refine a_if_eq (tgt := 93) dM_lawLine_79 (by decide) (fun _ => ?_) (fun c => False.elim (c rfl))
          refine a_aload_n 2 dM_lawLine_93 rfl rfl ?_
          refine a_geta (r := 104) dM_lawLine_94 fl12_35 rfl ly_95 (by omega) (rf_95_18 hR) ?_
          refine a_iload_n 1 dM_lawLine_97 rfl rfl ?_
          refine a_aload_n 2 dM_lawLine_98 rfl rfl ?_
          refine a_geta (r := 105) dM_lawLine_99 fl12_38 rfl ly_95 (by omega) (rf_95_19 hR) ?_
          refine a_iconstN (a := 2) dM_lawLine_102 (by decide) ?_
          refine a_ialdN (a := 2) dM_lawLine_103 ly_105 (by omega) (by omega) (by decide) ?_
          rw [show (m_row (m_row (m_row I 95 F3) 104 D) 105 (va_up (va_up (va_up A 0 (nI (kN (I 96) len p))) 1 (nI (kN (I 96) len (tkE (I 96) len p)))) 2 (nI (vN (I 96) len (tkE (I 96) len (tkE (I 96) len p)))))) 105 2 = (nI (vN (I 96) len (tkE (I 96) len (tkE (I 96) len p)))) from (by rw [m_row_eq]; exact va_up_self _ _ _)]
          refine a_iastN (a := ((59 + (4 * (kN (I 96) len p))) + (kN (I 96) len (tkE (I 96) len p)))) dM_lawLine_104 ly_104 (by omega) (by omega) (by decide) ?_
          rw [show m_up (m_row (m_row (m_row I 95 F3) 104 D) 105 (va_up (va_up (va_up A 0 (nI (kN (I 96) len p))) 1 (nI (kN (I 96) len (tkE (I 96) len p)))) 2 (nI (vN (I 96) len (tkE (I 96) len (tkE (I 96) len p)))))) 104 ((59 + (4 * (kN (I 96) len p))) + (kN (I 96) len (tkE (I 96) len p))) (nI (vN (I 96) len (tkE (I 96) len (tkE (I 96) len p)))) = (m_row (m_row (m_row I 95 F3) 104 (va_up D ((59 + (4 * (kN (I 96) len p))) + (kN (I 96) len (tkE (I 96) len p))) (nI (vN (I 96) len (tkE (I 96) len (tkE (I 96) len p)))))) 105 (va_up (va_up (va_up A 0 (nI (kN (I 96) len p))) 1 (nI (kN (I 96) len (tkE (I 96) len p)))) 2 (nI (vN (I 96) len (tkE (I 96) len (tkE (I 96) len p)))))) from (by rw [m_up_comm (by decide), m_up_r])]
          refine a_aload_n 2 dM_lawLine_105 rfl rfl ?_
          refine a_geta (r := 104) dM_lawLine_106 fl12_35 rfl ly_95 (by omega) (rf_95_18 hR) ?_
          refine a_iconstN (a := 2) dM_lawLine_109 (by decide) ?_
          refine a_dup2 dM_lawLine_110 rfl rfl ?_
          refine a_ialdN (a := 2) dM_lawLine_111 ly_104 (by omega) (by omega) (by decide) ?_
          rw [show (m_row (m_row (m_row I 95 F3) 104 (va_up D ((59 + (4 * (kN (I 96) len p))) + (kN (I 96) len (tkE (I 96) len p))) (nI (vN (I 96) len (tkE (I 96) len (tkE (I 96) len p)))))) 105 (va_up (va_up (va_up A 0 (nI (kN (I 96) len p))) 1 (nI (kN (I 96) len (tkE (I 96) len p)))) 2 (nI (vN (I 96) len (tkE (I 96) len (tkE (I 96) len p)))))) 104 2 = (nI nw) from (by rw [m_row_ne (show (104 : Nat) ≠ 105 by decide), m_row_eq, va_up_ne _ _ (by omega)]; exact hD2)]
          refine a_iload_n 0 dM_lawLine_112 rfl rfl ?_
          refine a_if_eq (tgt := 120) dM_lawLine_113 (by decide) (fun _ => ?_) (fun c => False.elim (c rfl))
          refine a_iconstN (a := 0) dM_lawLine_120 (by decide) ?_
          refine a_iaddN (a := nw) (b := 0) dM_lawLine_121 ?_
          refine a_iastN (a := 2) dM_lawLine_122 ly_104 (by omega) (by omega) (by decide) ?_
          rw [show m_up (m_row (m_row (m_row I 95 F3) 104 (va_up D ((59 + (4 * (kN (I 96) len p))) + (kN (I 96) len (tkE (I 96) len p))) (nI (vN (I 96) len (tkE (I 96) len (tkE (I 96) len p)))))) 105 (va_up (va_up (va_up A 0 (nI (kN (I 96) len p))) 1 (nI (kN (I 96) len (tkE (I 96) len p)))) 2 (nI (vN (I 96) len (tkE (I 96) len (tkE (I 96) len p)))))) 104 2 (nI (nw + 0)) = (m_row (m_row (m_row I 95 F3) 104 (va_up (va_up D ((59 + (4 * (kN (I 96) len p))) + (kN (I 96) len (tkE (I 96) len p))) (nI (vN (I 96) len (tkE (I 96) len (tkE (I 96) len p))))) 2 (nI (nw + 0)))) 105 (va_up (va_up (va_up A 0 (nI (kN (I 96) len p))) 1 (nI (kN (I 96) len (tkE (I 96) len p)))) 2 (nI (vN (I 96) len (tkE (I 96) len (tkE (I 96) len p)))))) from (by rw [m_up_comm (by decide), m_up_r])]
          refine a_iconstN (a := 1) dM_lawLine_123 (by decide) ?_
          exact a_zret dM_lawLine_124 rfl (by rfl) (by rw [lq, ms0_k t0, ms0_k t1, ms0_n t2, ms0_e]; rw [htb, s1_f, if_neg nn]; exact ⟨rfl, Or.inr ⟨rfl, rfl, rfl, _, _, _, hS3, rfl⟩⟩)
        ·
          refine a_callV (Q' := (tq0 I J R (tkB (I 96) len (tkE (I 96) len (tkE (I 96) len p))) D (va_up (va_up A 0 (nI (kN (I 96) len p))) 1 (nI (kN (I 96) len (tkE (I 96) len p)))))) (as := [.int (nI 2), .int (nI 0), .int (nI 9)]) (st := []) dM_lawLine_70 ml12_161 rfl (Nat.le_of_ble_eq_true rfl) ly_95 rfl rfl (by decide) (by omega) (Nat.le_of_ble_eq_true rfl) rfl (Nat.le_refl _) (Nat.le_refl _) (r_take0 (D := D) (A := (va_up (va_up A 0 (nI (kN (I 96) len p))) 1 (nI (kN (I 96) len (tkE (I 96) len p))))) hn hR hl6 hby q2 hS2 t2) ?_
          intro v9 I9 J9 R9 ⟨e1, ⟨w9, e2⟩, e3, F9, h15, e4⟩
          rw [e1, e2, e3, e4]
          show AW _ _ _ _ _ _ _ _ [.int 0] (m_row (m_row (m_row I 95 F9) 104 D) 105 (va_up (va_up A 0 (nI (kN (I 96) len p))) 1 (nI (kN (I 96) len (tkE (I 96) len p))))) _ _ _
          refine a_if_ne (tgt := 78) dM_lawLine_73 (by decide) (fun c => False.elim (c rfl)) (fun _ => ?_)
          refine a_iconstN (a := 0) dM_lawLine_76 (by decide) ?_
          exact a_zret dM_lawLine_77 rfl (by rfl) ⟨rfl, Or.inl ⟨rfl, by rw [ms0_k t0, ms0_k t1, ms0_n0 t2], ⟨_, rfl⟩, _, _, _, by rw [ms0_k t0, ms0_k t1, ms0_n0 t2]; exact h15, rfl⟩⟩
    · replace t1 := Classical.not_not.mp t1
      refine a_callV (Q' := (tq0 I J R (tkB (I 96) len (tkE (I 96) len p)) D (va_up A 0 (nI (kN (I 96) len p))))) (as := [.int (nI 1)]) (st := []) dM_lawLine_10 ml12_186 rfl (Nat.le_of_ble_eq_true rfl) ly_95 rfl rfl (by decide) (by omega) (Nat.le_of_ble_eq_true rfl) rfl (Nat.le_refl _) (Nat.le_refl _) (r_takeKind0 (D := D) (A := (va_up A 0 (nI (kN (I 96) len p)))) hn hR hl6 hby q1 hS1 t1) ?_
      intro v9 I9 J9 R9 ⟨e1, ⟨w9, e2⟩, e3, F9, h15, e4⟩
      rw [e1, e2, e3, e4]
      show AW _ _ _ _ _ _ _ _ [.int 0] (m_row (m_row (m_row I 95 F9) 104 D) 105 (va_up A 0 (nI (kN (I 96) len p)))) _ _ _
      refine a_if_ne (tgt := 18) dM_lawLine_13 (by decide) (fun c => False.elim (c rfl)) (fun _ => ?_)
      refine a_iconstN (a := 0) dM_lawLine_16 (by decide) ?_
      exact a_zret dM_lawLine_17 rfl (by rfl) ⟨rfl, Or.inl ⟨rfl, by rw [ms0_k t0, ms0_k0 t1], ⟨_, rfl⟩, _, _, _, by rw [ms0_k t0, ms0_k0 t1]; exact h15, rfl⟩⟩
  · replace t0 := Classical.not_not.mp t0
    refine a_callV (Q' := (tq0 I J R (tkB (I 96) len p) D A)) (as := [.int (nI 0)]) (st := []) dM_lawLine_2 ml12_186 rfl (Nat.le_of_ble_eq_true rfl) ly_95 rfl rfl (by decide) (by omega) (Nat.le_of_ble_eq_true rfl) rfl (Nat.le_refl _) (Nat.le_refl _) (r_takeKind0 (D := D) (A := A) hn hR hl6 hby q0 hS t0) ?_
    intro v9 I9 J9 R9 ⟨e1, ⟨w9, e2⟩, e3, F9, h15, e4⟩
    rw [e1, e2, e3, e4]
    show AW _ _ _ _ _ _ _ _ [.int 0] (m_row (m_row (m_row I 95 F9) 104 D) 105 A) _ _ _
    refine a_if_eq (tgt := 16) dM_lawLine_5 (by decide) (fun _ => ?_) (fun c => False.elim (c rfl))
    refine a_iconstN (a := 0) dM_lawLine_16 (by decide) ?_
    exact a_zret dM_lawLine_17 rfl (by rfl) ⟨rfl, Or.inl ⟨rfl, by rw [ms0_k0 t0], ⟨_, rfl⟩, _, _, _, by rw [ms0_k0 t0]; exact h15, rfl⟩⟩
