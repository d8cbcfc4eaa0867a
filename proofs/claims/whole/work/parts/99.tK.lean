theorem r_wk5 {S : Nat × (Nat → Int32)} {d n : Nat} {I : mI} {J : mJ} {R : mR} (hn : 122 ≤ n) (hR : m_fin R) {len : Nat} (hl6 : len ≤ 600) (hby : byT (I 96) len) {p : Nat} (hp : p ≤ len) {x : Nat × Nat} {gh gl : Int32} {F D A : Nat → Int32} (hS : RS (I 96) len p x gh gl 1 F) {w wv : Int64} (hw5 : lg_cmp wv 1734964837 = 0 ↔ iwT (I 96) len p 5) (hw6 : lg_cmp wv 1936484720 = 0 ↔ iwT (I 96) len p 6) (hw7 : lg_cmp wv 1651864174 = 0 ↔ iwT (I 96) len p 7) (hw8 : lg_cmp wv 474214787188 = 0 ↔ iwT (I 96) len p 8) (y5 : iwT (I 96) len p 5) (n6 : ¬ iwT (I 96) len p 6) (n7 : ¬ iwT (I 96) len p 7) (n8 : ¬ iwT (I 96) len p 8) {st : TS} (hRR : RR 1 st x gh gl D) : AW S (d + 6) YM_weekLine n n (olq I J R len 5 1 p st) 0 [(0, .ref 95), (1, .long wv), (3, .int (nI (tkB (I 96) len p)))] [] (m_row (m_row (m_row I 95 F) 104 D) 105 A) (m_up J 95 14 w) R n := by
  have hb := tkB_le (T := I 96) hp
  have he := tkE_le (T := I 96) hp
  have hbe := tkE_lt (T := I 96) hp (tk_wd y5.1).1
  obtain ⟨c, hc40, hd0⟩ := hRR.2.2.2.2.1 rfl
  by_cases tb9 : D 0 = nI 40
  · have lt9 := ltF_s (F := F) (q := (tkB (I 96) len p)) hS.f5 (show 3 < 5 by decide) hS.h16 hS.h17
    have hc9 : c = 40 := by rw [hd0] at tb9; exact (nI_eq (by omega) (by decide)).mp tb9
    refine a_lload_n 1 dM_weekLine_0 rfl rfl ?_
    refine a_ldc2 (v := 1734964837) dM_weekLine_1 cn12_218 ?_
    refine a_lcmp dM_weekLine_4 ?_
    refine a_if_ne (tgt := 12) dM_weekLine_5 (by decide) (fun c => False.elim (c (hw5.mpr y5))) (fun _ => ?_)
    refine a_iconstN (a := 0) dM_weekLine_8 (by decide) ?_
    refine a_goto (tgt := 49) dM_weekLine_9 (by decide) ?_
    refine a_istore (lv' := [(4, .int (nI 0)), (0, .ref 95), (1, .long wv), (3, .int (nI (tkB (I 96) len p)))]) dM_weekLine_49 (by decide) rfl ?_
    refine a_iload 0 dM_weekLine_51 rfl ?_
    refine a_iconst (v := -1) dM_weekLine_53 (by decide) ?_
    refine a_icmp_ne (tgt := 62) dM_weekLine_54 (by decide) (fun _ => ?_) (fun c => False.elim (absurd c (by decide)))
    refine a_aload_n 1 dM_weekLine_62 rfl rfl ?_
    refine a_iconstN (a := 0) dM_weekLine_63 (by decide) ?_
    refine a_bipushN (a := 40) dM_weekLine_64 (by decide) ?_
    refine a_iload_n 3 dM_weekLine_66 rfl rfl ?_
    refine a_callV (Q' := m_res none (mRd I (ltF x F 3 (tkB (I 96) len p)) D A) (m_up J 95 14 w) R) (as := [.int (nI 0), .int (nI 40), .int (nI (tkB (I 96) len p))]) (st := []) dM_weekLine_67 ml12_189 rfl (Nat.le_of_ble_eq_true rfl) ly_95 rfl rfl (by decide) (by omega) (Nat.le_of_ble_eq_true rfl) rfl (Nat.le_refl _) (Nat.le_refl _) (c_full1 hn hR (by decide) hS.f5 hS.h16 hS.h17 (by omega) (fun z => Nat.lt_of_lt_of_le (hS.hlp z) hb.1) tb9) (m_go ?_)
    show AW _ _ _ _ _ _ _ _ [] _ _ _ _
    refine a_aload_n 1 dM_weekLine_70 rfl rfl ?_
    refine a_callV (Q' := m_res none (m_row (m_row (m_row I 95 (tkG (I 96) len (tkE (I 96) len p) (ltF x F 3 (tkB (I 96) len p)))) 104 D) 105 A) (m_up J 95 14 (tkW (I 96) len (tkE (I 96) len p))) R) (as := []) (st := []) dM_weekLine_71 ml12_154 rfl (Nat.le_of_ble_eq_true rfl) ly_95 rfl rfl (by decide) (by omega) (Nat.le_of_ble_eq_true rfl) rfl (Nat.le_refl _) (Nat.le_refl _) (c_tok (S := S) (d := d + 4) (n := n) (F := (ltF x F 3 (tkB (I 96) len p))) (D := D) (A := A) (w := w) hn hR hl6 hby he.2 ((ltF_o (by decide) (by decide)).trans hS.h9) ((ltF_o (by decide) (by decide)).trans hS.h10)) (m_go ?_)
    show AW _ _ _ _ _ _ _ _ [] _ _ _ _
    show AW _ _ _ _ _ _ _ _ [] (m_row (m_row (m_row I 95 (tkG (I 96) len (tkE (I 96) len p) (ltF x F 3 (tkB (I 96) len p)))) 104 D) 105 A) _ _ _
    refine a_aload_n 1 dM_weekLine_74 rfl rfl ?_
    refine a_geta (r := 105) dM_weekLine_75 fl12_38 rfl ly_95 (by omega) (rf_95_19 hR) ?_
    refine a_iconstN (a := 1) dM_weekLine_78 (by decide) ?_
    refine a_iconst (v := -1) dM_weekLine_79 (by decide) ?_
    refine a_iastN (a := 1) dM_weekLine_80 ly_105 (by omega) (by omega) (by decide) ?_
    rw [show m_up (m_row (m_row (m_row I 95 (tkG (I 96) len (tkE (I 96) len p) (ltF x F 3 (tkB (I 96) len p)))) 104 D) 105 A) 105 1 (-1) = (m_row (m_row (m_row I 95 (tkG (I 96) len (tkE (I 96) len p) (ltF x F 3 (tkB (I 96) len p)))) 104 D) 105 (va_up A 1 (-1))) from (by rw [m_up_r])]
    refine a_aload_n 1 dM_weekLine_81 rfl rfl ?_
    refine a_geta (r := 105) dM_weekLine_82 fl12_38 rfl ly_95 (by omega) (rf_95_19 hR) ?_
    refine a_iconstN (a := 2) dM_weekLine_85 (by decide) ?_
    refine a_iconst (v := -1) dM_weekLine_86 (by decide) ?_
    refine a_iastN (a := 2) dM_weekLine_87 ly_105 (by omega) (by omega) (by decide) ?_
    rw [show m_up (m_row (m_row (m_row I 95 (tkG (I 96) len (tkE (I 96) len p) (ltF x F 3 (tkB (I 96) len p)))) 104 D) 105 (va_up A 1 (-1))) 105 2 (-1) = (m_row (m_row (m_row I 95 (tkG (I 96) len (tkE (I 96) len p) (ltF x F 3 (tkB (I 96) len p)))) 104 D) 105 (va_up (va_up A 1 (-1)) 2 (-1))) from (by rw [m_up_r])]
    refine a_iload 0 dM_weekLine_88 rfl ?_
    refine a_iconstN (a := 3) dM_weekLine_90 (by decide) ?_
    refine a_icmp_eqN (tgt := 103) dM_weekLine_91 (by decide) (by omega) (by omega) (fun c => False.elim (by omega)) (fun _ => ?_)
    refine a_aload_n 1 dM_weekLine_94 rfl rfl ?_
    refine a_iconstN (a := 1) dM_weekLine_95 (by decide) ?_
    refine a_iconst (v := -1) dM_weekLine_96 (by decide) ?_
    have hS1 : RS (I 96) len (tkE (I 96) len p) (s1 x true (3, (tkB (I 96) len p))) gh gl 1 (tkG (I 96) len (tkE (I 96) len p) (ltF x F 3 (tkB (I 96) len p))) := (RS_tk (F := ltF x F 3 (tkB (I 96) len p)) hby he.2 ((ltF_o (by decide) (by decide)).trans hS.h10) lt9.1 lt9.2.1 lt9.2.2 (s1_lt (fun z => Nat.lt_of_lt_of_le (hS.hlp z) (Nat.le_trans hb.1 he.1)) hbe) ((ltF_o (by decide) (by decide)).trans hS.h20) ((ltF_o (by decide) (by decide)).trans hS.h21) ((ltF_o (by decide) (by decide)).trans hS.h22))
    by_cases t0 : tkS (I 96) len (tkE (I 96) len p) = 2
    · have q1 : (tkE (I 96) len (tkE (I 96) len p)) ≤ len := (tkE_le (T := I 96) he.2).2
      refine a_callV (Q' := (tq1 I J R len (tkE (I 96) len (tkE (I 96) len p)) (s1 (s1 x true (3, (tkB (I 96) len p))) (bdB (vN (I 96) len (tkE (I 96) len p)) 0 9 || decide (nI (vN (I 96) len (tkE (I 96) len p)) = -1)) (2, (tkB (I 96) len (tkE (I 96) len p)))) gh (mxI gl (vN (I 96) len (tkE (I 96) len p))) (if (bdB (vN (I 96) len (tkE (I 96) len p)) 0 9 || decide (nI (vN (I 96) len (tkE (I 96) len p)) = -1)) = true then 0 else 1) D (va_up (va_up (va_up A 1 (-1)) 2 (-1)) 1 (nI (vN (I 96) len (tkE (I 96) len p)))))) (as := [.int (nI 1), .int (-1)]) (st := []) dM_weekLine_97 ml12_193 rfl (Nat.le_of_ble_eq_true rfl) ly_95 rfl rfl (by decide) (by omega) (Nat.le_of_ble_eq_true rfl) rfl (Nat.le_refl _) (Nat.le_refl _) (r_takeLetter1 (D := D) (A := (va_up (va_up A 1 (-1)) 2 (-1))) hn hR hl6 hby he.2 hS1 (by decide) t0) ?_
      intro v9 I9 J9 R9 ⟨e1, e2, e3, F2, hS2, e4⟩
      rw [e1, e2, e3, e4]
      show AW _ _ _ _ _ _ _ _ [.int 1] (m_row (m_row (m_row I 95 F2) 104 D) 105 (va_up (va_up (va_up A 1 (-1)) 2 (-1)) 1 (nI (vN (I 96) len (tkE (I 96) len p))))) _ _ _
      refine a_if_eq (tgt := 117) dM_weekLine_100 (by decide) (fun c => False.elim (absurd c (by decide))) (fun _ => ?_)
      refine a_iload 0 dM_weekLine_103 rfl ?_
      refine a_iconstN (a := 1) dM_weekLine_105 (by decide) ?_
      refine a_icmp_neN (tgt := 119) dM_weekLine_106 (by decide) (by omega) (by omega) (fun _ => ?_) (fun c => False.elim (by omega))
      refine a_aload_n 1 dM_weekLine_119 rfl rfl ?_
      refine a_geta (r := 105) dM_weekLine_120 fl12_38 rfl ly_95 (by omega) (rf_95_19 hR) ?_
      refine a_iconstN (a := 0) dM_weekLine_123 (by decide) ?_
      refine a_iload 0 dM_weekLine_124 rfl ?_
      refine a_iastN (a := 0) dM_weekLine_126 ly_105 (by omega) (by omega) (by decide) ?_
      rw [show m_up (m_row (m_row (m_row I 95 F2) 104 D) 105 (va_up (va_up (va_up A 1 (-1)) 2 (-1)) 1 (nI (vN (I 96) len (tkE (I 96) len p))))) 105 0 (nI 0) = (m_row (m_row (m_row I 95 F2) 104 D) 105 (va_up (va_up (va_up (va_up A 0 (nI 0)) 1 (-1)) 2 (-1)) 1 (nI (vN (I 96) len (tkE (I 96) len p))))) from (by rw [m_up_r, show va_up (va_up (va_up (va_up A 1 (-1)) 2 (-1)) 1 (nI (vN (I 96) len (tkE (I 96) len p)))) 0 (nI 0) = (va_up (va_up (va_up (va_up A 0 (nI 0)) 1 (-1)) 2 (-1)) 1 (nI (vN (I 96) len (tkE (I 96) len p)))) from ((va_uc (by decide)).trans (congrArg (fun g => va_up g 1 (nI (vN (I 96) len (tkE (I 96) len p)))) ((va_uc (by decide)).trans (congrArg (fun g => va_up g 2 (-1)) ((va_uc (by decide)).trans (congrArg (fun g => va_up g 1 (-1)) rfl))))))])]
      refine a_aload_n 1 dM_weekLine_127 rfl rfl ?_
      refine a_iconstN (a := 3) dM_weekLine_128 (by decide) ?_
      refine a_bipushN (a := 40) dM_weekLine_129 (by decide) ?_
      refine a_callV (Q' := m_res none (m_row (m_row (m_row I 95 F2) 104 D) 105 (va_up (va_up (va_up (va_up A 0 (nI 0)) 1 (-1)) 2 (-1)) 1 (nI (vN (I 96) len (tkE (I 96) len p))))) (m_up J 95 14 (tkW (I 96) len (tkE (I 96) len (tkE (I 96) len p)))) R) (as := [.int (nI 3), .int (nI 40)]) (st := []) dM_weekLine_131 ml12_226 rfl (Nat.le_of_ble_eq_true rfl) ly_95 rfl rfl (by decide) (by omega) (Nat.le_of_ble_eq_true rfl) rfl (Nat.le_refl _) (Nat.le_refl _) (c_keep3_0 hn hR tb9) (m_go ?_)
      show AW _ _ _ _ _ _ _ _ [] _ _ _ _
      refine a_iconstN (a := 1) dM_weekLine_134 (by decide) ?_
      exact a_zret dM_weekLine_135 rfl (by rfl) (by
        rw [olq, show shA 5 = [false] from rfl, ms0_n t0, ms0_e]
        have r := rr_5 he.2 t0 hc40 hd0 hRR (T := I 96) (b := (tkB (I 96) len p))
        rw [decide_eq_true tb9, if_neg (show ¬ c < 40 by omega)] at r
        exact ⟨rfl, Or.inr ⟨rfl, rfl, rfl, _, _, _, _, _, _, _, hS2, r, rfl⟩⟩)
    ·
      refine a_callV (Q' := (tq0 I J R (tkB (I 96) len (tkE (I 96) len p)) D (va_up (va_up A 1 (-1)) 2 (-1)))) (as := [.int (nI 1), .int (-1)]) (st := []) dM_weekLine_97 ml12_193 rfl (Nat.le_of_ble_eq_true rfl) ly_95 rfl rfl (by decide) (by omega) (Nat.le_of_ble_eq_true rfl) rfl (Nat.le_refl _) (Nat.le_refl _) (r_takeLetter0 (D := D) (A := (va_up (va_up A 1 (-1)) 2 (-1))) hn hR hl6 hby he.2 hS1 t0) ?_
      intro v9 I9 J9 R9 ⟨e1, ⟨w9, e2⟩, e3, F9, h15, e4⟩
      rw [e1, e2, e3, e4]
      show AW _ _ _ _ _ _ _ _ [.int 0] (m_row (m_row (m_row I 95 F9) 104 D) 105 (va_up (va_up A 1 (-1)) 2 (-1))) _ _ _
      refine a_if_eq (tgt := 117) dM_weekLine_100 (by decide) (fun _ => ?_) (fun c => False.elim (c rfl))
      refine a_iconstN (a := 0) dM_weekLine_117 (by decide) ?_
      exact a_zret dM_weekLine_118 rfl (by rfl) (by
        rw [olq, show shA 5 = [false] from rfl, ms0_n0 t0]
        exact ⟨rfl, Or.inl ⟨rfl, rfl, ⟨_, rfl⟩, _, _, _, h15, rfl⟩⟩)
  · have hc9 : c < 40 := by
      rcases Nat.lt_or_ge c 40 with q | q
      · exact q
      · exact absurd (by rw [hd0]; congr 1; omega) tb9
    refine a_lload_n 1 dM_weekLine_0 rfl rfl ?_
    refine a_ldc2 (v := 1734964837) dM_weekLine_1 cn12_218 ?_
    refine a_lcmp dM_weekLine_4 ?_
    refine a_if_ne (tgt := 12) dM_weekLine_5 (by decide) (fun c => False.elim (c (hw5.mpr y5))) (fun _ => ?_)
    refine a_iconstN (a := 0) dM_weekLine_8 (by decide) ?_
    refine a_goto (tgt := 49) dM_weekLine_9 (by decide) ?_
    refine a_istore (lv' := [(4, .int (nI 0)), (0, .ref 95), (1, .long wv), (3, .int (nI (tkB (I 96) len p)))]) dM_weekLine_49 (by decide) rfl ?_
    refine a_iload 0 dM_weekLine_51 rfl ?_
    refine a_iconst (v := -1) dM_weekLine_53 (by decide) ?_
    refine a_icmp_ne (tgt := 62) dM_weekLine_54 (by decide) (fun _ => ?_) (fun c => False.elim (absurd c (by decide)))
    refine a_aload_n 1 dM_weekLine_62 rfl rfl ?_
    refine a_iconstN (a := 0) dM_weekLine_63 (by decide) ?_
    refine a_bipushN (a := 40) dM_weekLine_64 (by decide) ?_
    refine a_iload_n 3 dM_weekLine_66 rfl rfl ?_
    refine a_callV (Q' := m_res none (m_row (m_row (m_row I 95 F) 104 D) 105 A) (m_up J 95 14 w) R) (as := [.int (nI 0), .int (nI 40), .int (nI (tkB (I 96) len p))]) (st := []) dM_weekLine_67 ml12_189 rfl (Nat.le_of_ble_eq_true rfl) ly_95 rfl rfl (by decide) (by omega) (Nat.le_of_ble_eq_true rfl) rfl (Nat.le_refl _) (Nat.le_refl _) (c_full0 hn hR (by decide) tb9) (m_go ?_)
    show AW _ _ _ _ _ _ _ _ [] _ _ _ _
    refine a_aload_n 1 dM_weekLine_70 rfl rfl ?_
    refine a_callV (Q' := m_res none (m_row (m_row (m_row I 95 (tkG (I 96) len (tkE (I 96) len p) F)) 104 D) 105 A) (m_up J 95 14 (tkW (I 96) len (tkE (I 96) len p))) R) (as := []) (st := []) dM_weekLine_71 ml12_154 rfl (Nat.le_of_ble_eq_true rfl) ly_95 rfl rfl (by decide) (by omega) (Nat.le_of_ble_eq_true rfl) rfl (Nat.le_refl _) (Nat.le_refl _) (c_tok (S := S) (d := d + 4) (n := n) (F := F) (D := D) (A := A) (w := w) hn hR hl6 hby he.2 hS.h9 hS.h10) (m_go ?_)
    show AW _ _ _ _ _ _ _ _ [] _ _ _ _
    show AW _ _ _ _ _ _ _ _ [] (m_row (m_row (m_row I 95 (tkG (I 96) len (tkE (I 96) len p) F)) 104 D) 105 A) _ _ _
    refine a_aload_n 1 dM_weekLine_74 rfl rfl ?_
    refine a_geta (r := 105) dM_weekLine_75 fl12_38 rfl ly_95 (by omega) (rf_95_19 hR) ?_
    refine a_iconstN (a := 1) dM_weekLine_78 (by decide) ?_
    refine a_iconst (v := -1) dM_weekLine_79 (by decide) ?_
    refine a_iastN (a := 1) dM_weekLine_80 ly_105 (by omega) (by omega) (by decide) ?_
    rw [show m_up (m_row (m_row (m_row I 95 (tkG (I 96) len (tkE (I 96) len p) F)) 104 D) 105 A) 105 1 (-1) = (m_row (m_row (m_row I 95 (tkG (I 96) len (tkE (I 96) len p) F)) 104 D) 105 (va_up A 1 (-1))) from (by rw [m_up_r])]
    refine a_aload_n 1 dM_weekLine_81 rfl rfl ?_
    refine a_geta (r := 105) dM_weekLine_82 fl12_38 rfl ly_95 (by omega) (rf_95_19 hR) ?_
    refine a_iconstN (a := 2) dM_weekLine_85 (by decide) ?_
    refine a_iconst (v := -1) dM_weekLine_86 (by decide) ?_
    refine a_iastN (a := 2) dM_weekLine_87 ly_105 (by omega) (by omega) (by decide) ?_
    rw [show m_up (m_row (m_row (m_row I 95 (tkG (I 96) len (tkE (I 96) len p) F)) 104 D) 105 (va_up A 1 (-1))) 105 2 (-1) = (m_row (m_row (m_row I 95 (tkG (I 96) len (tkE (I 96) len p) F)) 104 D) 105 (va_up (va_up A 1 (-1)) 2 (-1))) from (by rw [m_up_r])]
    refine a_iload 0 dM_weekLine_88 rfl ?_
    refine a_iconstN (a := 3) dM_weekLine_90 (by decide) ?_
    refine a_icmp_eqN (tgt := 103) dM_weekLine_91 (by decide) (by omega) (by omega) (fun c => False.elim (by omega)) (fun _ => ?_)
    refine a_aload_n 1 dM_weekLine_94 rfl rfl ?_
    refine a_iconstN (a := 1) dM_weekLine_95 (by decide) ?_
    refine a_iconst (v := -1) dM_weekLine_96 (by decide) ?_
    have hS1 : RS (I 96) len (tkE (I 96) len p) x gh gl 1 (tkG (I 96) len (tkE (I 96) len p) F) := (RS_tk hby he.2 hS.h10 hS.f5 hS.h16 hS.h17 (fun z => Nat.lt_of_lt_of_le (hS.hlp z) (Nat.le_trans hb.1 he.1)) hS.h20 hS.h21 hS.h22)
    by_cases t0 : tkS (I 96) len (tkE (I 96) len p) = 2
    · have q1 : (tkE (I 96) len (tkE (I 96) len p)) ≤ len := (tkE_le (T := I 96) he.2).2
      refine a_callV (Q' := (tq1 I J R len (tkE (I 96) len (tkE (I 96) len p)) (s1 x (bdB (vN (I 96) len (tkE (I 96) len p)) 0 9 || decide (nI (vN (I 96) len (tkE (I 96) len p)) = -1)) (2, (tkB (I 96) len (tkE (I 96) len p)))) gh (mxI gl (vN (I 96) len (tkE (I 96) len p))) (if (bdB (vN (I 96) len (tkE (I 96) len p)) 0 9 || decide (nI (vN (I 96) len (tkE (I 96) len p)) = -1)) = true then 0 else 1) D (va_up (va_up (va_up A 1 (-1)) 2 (-1)) 1 (nI (vN (I 96) len (tkE (I 96) len p)))))) (as := [.int (nI 1), .int (-1)]) (st := []) dM_weekLine_97 ml12_193 rfl (Nat.le_of_ble_eq_true rfl) ly_95 rfl rfl (by decide) (by omega) (Nat.le_of_ble_eq_true rfl) rfl (Nat.le_refl _) (Nat.le_refl _) (r_takeLetter1 (D := D) (A := (va_up (va_up A 1 (-1)) 2 (-1))) hn hR hl6 hby he.2 hS1 (by decide) t0) ?_
      intro v9 I9 J9 R9 ⟨e1, e2, e3, F2, hS2, e4⟩
      rw [e1, e2, e3, e4]
      show AW _ _ _ _ _ _ _ _ [.int 1] (m_row (m_row (m_row I 95 F2) 104 D) 105 (va_up (va_up (va_up A 1 (-1)) 2 (-1)) 1 (nI (vN (I 96) len (tkE (I 96) len p))))) _ _ _
      refine a_if_eq (tgt := 117) dM_weekLine_100 (by decide) (fun c => False.elim (absurd c (by decide))) (fun _ => ?_)
      refine a_iload 0 dM_weekLine_103 rfl ?_
      refine a_iconstN (a := 1) dM_weekLine_105 (by decide) ?_
      refine a_icmp_neN (tgt := 119) dM_weekLine_106 (by decide) (by omega) (by omega) (fun _ => ?_) (fun c => False.elim (by omega))
      refine a_aload_n 1 dM_weekLine_119 rfl rfl ?_
      refine a_geta (r := 105) dM_weekLine_120 fl12_38 rfl ly_95 (by omega) (rf_95_19 hR) ?_
      refine a_iconstN (a := 0) dM_weekLine_123 (by decide) ?_
      refine a_iload 0 dM_weekLine_124 rfl ?_
      refine a_iastN (a := 0) dM_weekLine_126 ly_105 (by omega) (by omega) (by decide) ?_
      rw [show m_up (m_row (m_row (m_row I 95 F2) 104 D) 105 (va_up (va_up (va_up A 1 (-1)) 2 (-1)) 1 (nI (vN (I 96) len (tkE (I 96) len p))))) 105 0 (nI 0) = (m_row (m_row (m_row I 95 F2) 104 D) 105 (va_up (va_up (va_up (va_up A 0 (nI 0)) 1 (-1)) 2 (-1)) 1 (nI (vN (I 96) len (tkE (I 96) len p))))) from (by rw [m_up_r, show va_up (va_up (va_up (va_up A 1 (-1)) 2 (-1)) 1 (nI (vN (I 96) len (tkE (I 96) len p)))) 0 (nI 0) = (va_up (va_up (va_up (va_up A 0 (nI 0)) 1 (-1)) 2 (-1)) 1 (nI (vN (I 96) len (tkE (I 96) len p)))) from ((va_uc (by decide)).trans (congrArg (fun g => va_up g 1 (nI (vN (I 96) len (tkE (I 96) len p)))) ((va_uc (by decide)).trans (congrArg (fun g => va_up g 2 (-1)) ((va_uc (by decide)).trans (congrArg (fun g => va_up g 1 (-1)) rfl))))))])]
      refine a_aload_n 1 dM_weekLine_127 rfl rfl ?_
      refine a_iconstN (a := 3) dM_weekLine_128 (by decide) ?_
      refine a_bipushN (a := 40) dM_weekLine_129 (by decide) ?_
      refine a_callV (Q' := m_res none (mRd I F2 (wkU D c (nI 0) (nI (vN (I 96) len (tkE (I 96) len p))) (-1)) (va_up (va_up (va_up (va_up A 0 (nI 0)) 1 (-1)) 2 (-1)) 1 (nI (vN (I 96) len (tkE (I 96) len p))))) (m_up J 95 14 (tkW (I 96) len (tkE (I 96) len (tkE (I 96) len p)))) R) (as := [.int (nI 3), .int (nI 40)]) (st := []) dM_weekLine_131 ml12_226 rfl (Nat.le_of_ble_eq_true rfl) ly_95 rfl rfl (by decide) (by omega) (Nat.le_of_ble_eq_true rfl) rfl (Nat.le_refl _) (Nat.le_refl _) (by have q := c_keep3_1 (S := S) (d := d + 5) (n := n) (I := I) (J := (m_up J 95 14 (tkW (I 96) len (tkE (I 96) len (tkE (I 96) len p))))) (R := R) (F := F2) (D := D) (A := (va_up (va_up (va_up (va_up A 0 (nI 0)) 1 (-1)) 2 (-1)) 1 (nI (vN (I 96) len (tkE (I 96) len p))))) hn hR hd0 hc9; rw [show (va_up (va_up (va_up (va_up A 0 (nI 0)) 1 (-1)) 2 (-1)) 1 (nI (vN (I 96) len (tkE (I 96) len p)))) 0 = nI 0 from rfl, show (va_up (va_up (va_up (va_up A 0 (nI 0)) 1 (-1)) 2 (-1)) 1 (nI (vN (I 96) len (tkE (I 96) len p)))) 1 = nI (vN (I 96) len (tkE (I 96) len p)) from rfl, show (va_up (va_up (va_up (va_up A 0 (nI 0)) 1 (-1)) 2 (-1)) 1 (nI (vN (I 96) len (tkE (I 96) len p)))) 2 = -1 from rfl] at q; exact q) (m_go ?_)
      show AW _ _ _ _ _ _ _ _ [] _ _ _ _
      refine a_iconstN (a := 1) dM_weekLine_134 (by decide) ?_
      exact a_zret dM_weekLine_135 rfl (by rfl) (by
        rw [olq, show shA 5 = [false] from rfl, ms0_n t0, ms0_e]
        have r := rr_5 he.2 t0 hc40 hd0 hRR (T := I 96) (b := (tkB (I 96) len p))
        rw [decide_eq_false tb9, s1_f, if_pos hc9] at r
        exact ⟨rfl, Or.inr ⟨rfl, rfl, rfl, _, _, _, _, _, _, _, hS2, r, rfl⟩⟩)
    ·
      refine a_callV (Q' := (tq0 I J R (tkB (I 96) len (tkE (I 96) len p)) D (va_up (va_up A 1 (-1)) 2 (-1)))) (as := [.int (nI 1), .int (-1)]) (st := []) dM_weekLine_97 ml12_193 rfl (Nat.le_of_ble_eq_true rfl) ly_95 rfl rfl (by decide) (by omega) (Nat.le_of_ble_eq_true rfl) rfl (Nat.le_refl _) (Nat.le_refl _) (r_takeLetter0 (D := D) (A := (va_up (va_up A 1 (-1)) 2 (-1))) hn hR hl6 hby he.2 hS1 t0) ?_
      intro v9 I9 J9 R9 ⟨e1, ⟨w9, e2⟩, e3, F9, h15, e4⟩
      rw [e1, e2, e3, e4]
      show AW _ _ _ _ _ _ _ _ [.int 0] (m_row (m_row (m_row I 95 F9) 104 D) 105 (va_up (va_up A 1 (-1)) 2 (-1))) _ _ _
      refine a_if_eq (tgt := 117) dM_weekLine_100 (by decide) (fun _ => ?_) (fun c => False.elim (c rfl))
      refine a_iconstN (a := 0) dM_weekLine_117 (by decide) ?_
      exact a_zret dM_weekLine_118 rfl (by rfl) (by
        rw [olq, show shA 5 = [false] from rfl, ms0_n0 t0]
        exact ⟨rfl, Or.inl ⟨rfl, rfl, ⟨_, rfl⟩, _, _, _, h15, rfl⟩⟩)
theorem r_wk6 {S : Nat × (Nat → Int32)} {d n : Nat} {I : mI} {J : mJ} {R : mR} (hn : 122 ≤ n) (hR : m_fin R) {len : Nat} (hl6 : len ≤ 600) (hby : byT (I 96) len) {p : Nat} (hp : p ≤ len) {x : Nat × Nat} {gh gl : Int32} {F D A : Nat → Int32} (hS : RS (I 96) len p x gh gl 1 F) {w wv : Int64} (hw5 : lg_cmp wv 1734964837 = 0 ↔ iwT (I 96) len p 5) (hw6 : lg_cmp wv 1936484720 = 0 ↔ iwT (I 96) len p 6) (hw7 : lg_cmp wv 1651864174 = 0 ↔ iwT (I 96) len p 7) (hw8 : lg_cmp wv 474214787188 = 0 ↔ iwT (I 96) len p 8) (y6 : iwT (I 96) len p 6) (n5 : ¬ iwT (I 96) len p 5) (n7 : ¬ iwT (I 96) len p 7) (n8 : ¬ iwT (I 96) len p 8) {st : TS} (hRR : RR 1 st x gh gl D) : AW S (d + 6) YM_weekLine n n (olq I J R len 6 1 p st) 0 [(0, .ref 95), (1, .long wv), (3, .int (nI (tkB (I 96) len p)))] [] (m_row (m_row (m_row I 95 F) 104 D) 105 A) (m_up J 95 14 w) R n := by
  have hb := tkB_le (T := I 96) hp
  have he := tkE_le (T := I 96) hp
  have hbe := tkE_lt (T := I 96) hp (tk_wd y6.1).1
  obtain ⟨c, hc40, hd0⟩ := hRR.2.2.2.2.1 rfl
  by_cases tb9 : D 0 = nI 40
  · have lt9 := ltF_s (F := F) (q := (tkB (I 96) len p)) hS.f5 (show 3 < 5 by decide) hS.h16 hS.h17
    have hc9 : c = 40 := by rw [hd0] at tb9; exact (nI_eq (by omega) (by decide)).mp tb9
    refine a_lload_n 1 dM_weekLine_0 rfl rfl ?_
    refine a_ldc2 (v := 1734964837) dM_weekLine_1 cn12_218 ?_
    refine a_lcmp dM_weekLine_4 ?_
    refine a_if_ne (tgt := 12) dM_weekLine_5 (by decide) (fun _ => ?_) (fun c => False.elim (n5 (hw5.mp c)))
    refine a_lload_n 1 dM_weekLine_12 rfl rfl ?_
    refine a_ldc2 (v := 1936484720) dM_weekLine_13 cn12_220 ?_
    refine a_lcmp dM_weekLine_16 ?_
    refine a_if_ne (tgt := 24) dM_weekLine_17 (by decide) (fun c => False.elim (c (hw6.mpr y6))) (fun _ => ?_)
    refine a_iconstN (a := 1) dM_weekLine_20 (by decide) ?_
    refine a_goto (tgt := 49) dM_weekLine_21 (by decide) ?_
    refine a_istore (lv' := [(4, .int (nI 1)), (0, .ref 95), (1, .long wv), (3, .int (nI (tkB (I 96) len p)))]) dM_weekLine_49 (by decide) rfl ?_
    refine a_iload 0 dM_weekLine_51 rfl ?_
    refine a_iconst (v := -1) dM_weekLine_53 (by decide) ?_
    refine a_icmp_ne (tgt := 62) dM_weekLine_54 (by decide) (fun _ => ?_) (fun c => False.elim (absurd c (by decide)))
    refine a_aload_n 1 dM_weekLine_62 rfl rfl ?_
    refine a_iconstN (a := 0) dM_weekLine_63 (by decide) ?_
    refine a_bipushN (a := 40) dM_weekLine_64 (by decide) ?_
    refine a_iload_n 3 dM_weekLine_66 rfl rfl ?_
    refine a_callV (Q' := m_res none (mRd I (ltF x F 3 (tkB (I 96) len p)) D A) (m_up J 95 14 w) R) (as := [.int (nI 0), .int (nI 40), .int (nI (tkB (I 96) len p))]) (st := []) dM_weekLine_67 ml12_189 rfl (Nat.le_of_ble_eq_true rfl) ly_95 rfl rfl (by decide) (by omega) (Nat.le_of_ble_eq_true rfl) rfl (Nat.le_refl _) (Nat.le_refl _) (c_full1 hn hR (by decide) hS.f5 hS.h16 hS.h17 (by omega) (fun z => Nat.lt_of_lt_of_le (hS.hlp z) hb.1) tb9) (m_go ?_)
    show AW _ _ _ _ _ _ _ _ [] _ _ _ _
    refine a_aload_n 1 dM_weekLine_70 rfl rfl ?_
    refine a_callV (Q' := m_res none (m_row (m_row (m_row I 95 (tkG (I 96) len (tkE (I 96) len p) (ltF x F 3 (tkB (I 96) len p)))) 104 D) 105 A) (m_up J 95 14 (tkW (I 96) len (tkE (I 96) len p))) R) (as := []) (st := []) dM_weekLine_71 ml12_154 rfl (Nat.le_of_ble_eq_true rfl) ly_95 rfl rfl (by decide) (by omega) (Nat.le_of_ble_eq_true rfl) rfl (Nat.le_refl _) (Nat.le_refl _) (c_tok (S := S) (d := d + 4) (n := n) (F := (ltF x F 3 (tkB (I 96) len p))) (D := D) (A := A) (w := w) hn hR hl6 hby he.2 ((ltF_o (by decide) (by decide)).trans hS.h9) ((ltF_o (by decide) (by decide)).trans hS.h10)) (m_go ?_)
    show AW _ _ _ _ _ _ _ _ [] _ _ _ _
    show AW _ _ _ _ _ _ _ _ [] (m_row (m_row (m_row I 95 (tkG (I 96) len (tkE (I 96) len p) (ltF x F 3 (tkB (I 96) len p)))) 104 D) 105 A) _ _ _
    refine a_aload_n 1 dM_weekLine_74 rfl rfl ?_
    refine a_geta (r := 105) dM_weekLine_75 fl12_38 rfl ly_95 (by omega) (rf_95_19 hR) ?_
    refine a_iconstN (a := 1) dM_weekLine_78 (by decide) ?_
    refine a_iconst (v := -1) dM_weekLine_79 (by decide) ?_
    refine a_iastN (a := 1) dM_weekLine_80 ly_105 (by omega) (by omega) (by decide) ?_
    rw [show m_up (m_row (m_row (m_row I 95 (tkG (I 96) len (tkE (I 96) len p) (ltF x F 3 (tkB (I 96) len p)))) 104 D) 105 A) 105 1 (-1) = (m_row (m_row (m_row I 95 (tkG (I 96) len (tkE (I 96) len p) (ltF x F 3 (tkB (I 96) len p)))) 104 D) 105 (va_up A 1 (-1))) from (by rw [m_up_r])]
    refine a_aload_n 1 dM_weekLine_81 rfl rfl ?_
    refine a_geta (r := 105) dM_weekLine_82 fl12_38 rfl ly_95 (by omega) (rf_95_19 hR) ?_
    refine a_iconstN (a := 2) dM_weekLine_85 (by decide) ?_
    refine a_iconst (v := -1) dM_weekLine_86 (by decide) ?_
    refine a_iastN (a := 2) dM_weekLine_87 ly_105 (by omega) (by omega) (by decide) ?_
    rw [show m_up (m_row (m_row (m_row I 95 (tkG (I 96) len (tkE (I 96) len p) (ltF x F 3 (tkB (I 96) len p)))) 104 D) 105 (va_up A 1 (-1))) 105 2 (-1) = (m_row (m_row (m_row I 95 (tkG (I 96) len (tkE (I 96) len p) (ltF x F 3 (tkB (I 96) len p)))) 104 D) 105 (va_up (va_up A 1 (-1)) 2 (-1))) from (by rw [m_up_r])]
    refine a_iload 0 dM_weekLine_88 rfl ?_
    refine a_iconstN (a := 3) dM_weekLine_90 (by decide) ?_
    refine a_icmp_eqN (tgt := 103) dM_weekLine_91 (by decide) (by omega) (by omega) (fun c => False.elim (by omega)) (fun _ => ?_)
    refine a_aload_n 1 dM_weekLine_94 rfl rfl ?_
    refine a_iconstN (a := 1) dM_weekLine_95 (by decide) ?_
    refine a_iconst (v := -1) dM_weekLine_96 (by decide) ?_
    have hS1 : RS (I 96) len (tkE (I 96) len p) (s1 x true (3, (tkB (I 96) len p))) gh gl 1 (tkG (I 96) len (tkE (I 96) len p) (ltF x F 3 (tkB (I 96) len p))) := (RS_tk (F := ltF x F 3 (tkB (I 96) len p)) hby he.2 ((ltF_o (by decide) (by decide)).trans hS.h10) lt9.1 lt9.2.1 lt9.2.2 (s1_lt (fun z => Nat.lt_of_lt_of_le (hS.hlp z) (Nat.le_trans hb.1 he.1)) hbe) ((ltF_o (by decide) (by decide)).trans hS.h20) ((ltF_o (by decide) (by decide)).trans hS.h21) ((ltF_o (by decide) (by decide)).trans hS.h22))
    by_cases t0 : tkS (I 96) len (tkE (I 96) len p) = 2
    · have q1 : (tkE (I 96) len (tkE (I 96) len p)) ≤ len := (tkE_le (T := I 96) he.2).2
      refine a_callV (Q' := (tq1 I J R len (tkE (I 96) len (tkE (I 96) len p)) (s1 (s1 x true (3, (tkB (I 96) len p))) (bdB (vN (I 96) len (tkE (I 96) len p)) 0 9 || decide (nI (vN (I 96) len (tkE (I 96) len p)) = -1)) (2, (tkB (I 96) len (tkE (I 96) len p)))) gh (mxI gl (vN (I 96) len (tkE (I 96) len p))) (if (bdB (vN (I 96) len (tkE (I 96) len p)) 0 9 || decide (nI (vN (I 96) len (tkE (I 96) len p)) = -1)) = true then 0 else 1) D (va_up (va_up (va_up A 1 (-1)) 2 (-1)) 1 (nI (vN (I 96) len (tkE (I 96) len p)))))) (as := [.int (nI 1), .int (-1)]) (st := []) dM_weekLine_97 ml12_193 rfl (Nat.le_of_ble_eq_true rfl) ly_95 rfl rfl (by decide) (by omega) (Nat.le_of_ble_eq_true rfl) rfl (Nat.le_refl _) (Nat.le_refl _) (r_takeLetter1 (D := D) (A := (va_up (va_up A 1 (-1)) 2 (-1))) hn hR hl6 hby he.2 hS1 (by decide) t0) ?_
      intro v9 I9 J9 R9 ⟨e1, e2, e3, F2, hS2, e4⟩
      rw [e1, e2, e3, e4]
      show AW _ _ _ _ _ _ _ _ [.int 1] (m_row (m_row (m_row I 95 F2) 104 D) 105 (va_up (va_up (va_up A 1 (-1)) 2 (-1)) 1 (nI (vN (I 96) len (tkE (I 96) len p))))) _ _ _
      refine a_if_eq (tgt := 117) dM_weekLine_100 (by decide) (fun c => False.elim (absurd c (by decide))) (fun _ => ?_)
      refine a_iload 0 dM_weekLine_103 rfl ?_
      refine a_iconstN (a := 1) dM_weekLine_105 (by decide) ?_
      refine a_icmp_neN (tgt := 119) dM_weekLine_106 (by decide) (by omega) (by omega) (fun c => False.elim (by omega)) (fun _ => ?_)
      refine a_aload_n 1 dM_weekLine_109 rfl rfl ?_
      refine a_iconstN (a := 2) dM_weekLine_110 (by decide) ?_
      by_cases t1 : tkS (I 96) len (tkE (I 96) len (tkE (I 96) len p)) = 2
      ·
        refine a_callV (Q' := (tq1 I J R len (tkE (I 96) len (tkE (I 96) len (tkE (I 96) len p))) (s1 (s1 (s1 x true (3, (tkB (I 96) len p))) (bdB (vN (I 96) len (tkE (I 96) len p)) 0 9 || decide (nI (vN (I 96) len (tkE (I 96) len p)) = -1)) (2, (tkB (I 96) len (tkE (I 96) len p)))) (bdB (vN (I 96) len (tkE (I 96) len (tkE (I 96) len p))) 0 5) (2, (tkB (I 96) len (tkE (I 96) len (tkE (I 96) len p))))) (mxI gh (vN (I 96) len (tkE (I 96) len (tkE (I 96) len p)))) (mxI gl (vN (I 96) len (tkE (I 96) len p))) (if (bdB (vN (I 96) len (tkE (I 96) len (tkE (I 96) len p))) 0 5) = true then 0 else (if (bdB (vN (I 96) len (tkE (I 96) len p)) 0 9 || decide (nI (vN (I 96) len (tkE (I 96) len p)) = -1)) = true then 0 else 1)) D (va_up (va_up (va_up (va_up A 1 (-1)) 2 (-1)) 1 (nI (vN (I 96) len (tkE (I 96) len p)))) 2 (nI (vN (I 96) len (tkE (I 96) len (tkE (I 96) len p))))))) (as := [.int (nI 2)]) (st := []) dM_weekLine_111 ml12_182 rfl (Nat.le_of_ble_eq_true rfl) ly_95 rfl rfl (by decide) (by omega) (Nat.le_of_ble_eq_true rfl) rfl (Nat.le_refl _) (Nat.le_refl _) (r_takeHouse1 (D := D) (A := (va_up (va_up (va_up A 1 (-1)) 2 (-1)) 1 (nI (vN (I 96) len (tkE (I 96) len p))))) hn hR hl6 hby q1 hS2 (by decide) t1) ?_
        intro v9 I9 J9 R9 ⟨e1, e2, e3, F3, hS3, e4⟩
        rw [e1, e2, e3, e4]
        show AW _ _ _ _ _ _ _ _ [.int 1] (m_row (m_row (m_row I 95 F3) 104 D) 105 (va_up (va_up (va_up (va_up A 1 (-1)) 2 (-1)) 1 (nI (vN (I 96) len (tkE (I 96) len p)))) 2 (nI (vN (I 96) len (tkE (I 96) len (tkE (I 96) len p)))))) _ _ _
        refine a_if_ne (tgt := 119) dM_weekLine_114 (by decide) (fun _ => ?_) (fun c => False.elim (absurd c (by decide)))
        refine a_aload_n 1 dM_weekLine_119 rfl rfl ?_
        refine a_geta (r := 105) dM_weekLine_120 fl12_38 rfl ly_95 (by omega) (rf_95_19 hR) ?_
        refine a_iconstN (a := 0) dM_weekLine_123 (by decide) ?_
        refine a_iload 0 dM_weekLine_124 rfl ?_
        refine a_iastN (a := 0) dM_weekLine_126 ly_105 (by omega) (by omega) (by decide) ?_
        rw [show m_up (m_row (m_row (m_row I 95 F3) 104 D) 105 (va_up (va_up (va_up (va_up A 1 (-1)) 2 (-1)) 1 (nI (vN (I 96) len (tkE (I 96) len p)))) 2 (nI (vN (I 96) len (tkE (I 96) len (tkE (I 96) len p)))))) 105 0 (nI 1) = (m_row (m_row (m_row I 95 F3) 104 D) 105 (va_up (va_up (va_up (va_up (va_up A 0 (nI 1)) 1 (-1)) 2 (-1)) 1 (nI (vN (I 96) len (tkE (I 96) len p)))) 2 (nI (vN (I 96) len (tkE (I 96) len (tkE (I 96) len p)))))) from (by rw [m_up_r, show va_up (va_up (va_up (va_up (va_up A 1 (-1)) 2 (-1)) 1 (nI (vN (I 96) len (tkE (I 96) len p)))) 2 (nI (vN (I 96) len (tkE (I 96) len (tkE (I 96) len p))))) 0 (nI 1) = (va_up (va_up (va_up (va_up (va_up A 0 (nI 1)) 1 (-1)) 2 (-1)) 1 (nI (vN (I 96) len (tkE (I 96) len p)))) 2 (nI (vN (I 96) len (tkE (I 96) len (tkE (I 96) len p))))) from ((va_uc (by decide)).trans (congrArg (fun g => va_up g 2 (nI (vN (I 96) len (tkE (I 96) len (tkE (I 96) len p))))) ((va_uc (by decide)).trans (congrArg (fun g => va_up g 1 (nI (vN (I 96) len (tkE (I 96) len p)))) ((va_uc (by decide)).trans (congrArg (fun g => va_up g 2 (-1)) ((va_uc (by decide)).trans (congrArg (fun g => va_up g 1 (-1)) rfl))))))))])]
        refine a_aload_n 1 dM_weekLine_127 rfl rfl ?_
        refine a_iconstN (a := 3) dM_weekLine_128 (by decide) ?_
        refine a_bipushN (a := 40) dM_weekLine_129 (by decide) ?_
        refine a_callV (Q' := m_res none (m_row (m_row (m_row I 95 F3) 104 D) 105 (va_up (va_up (va_up (va_up (va_up A 0 (nI 1)) 1 (-1)) 2 (-1)) 1 (nI (vN (I 96) len (tkE (I 96) len p)))) 2 (nI (vN (I 96) len (tkE (I 96) len (tkE (I 96) len p)))))) (m_up J 95 14 (tkW (I 96) len (tkE (I 96) len (tkE (I 96) len (tkE (I 96) len p))))) R) (as := [.int (nI 3), .int (nI 40)]) (st := []) dM_weekLine_131 ml12_226 rfl (Nat.le_of_ble_eq_true rfl) ly_95 rfl rfl (by decide) (by omega) (Nat.le_of_ble_eq_true rfl) rfl (Nat.le_refl _) (Nat.le_refl _) (c_keep3_0 hn hR tb9) (m_go ?_)
        show AW _ _ _ _ _ _ _ _ [] _ _ _ _
        refine a_iconstN (a := 1) dM_weekLine_134 (by decide) ?_
        exact a_zret dM_weekLine_135 rfl (by rfl) (by
        rw [olq, show shA 6 = [false, false] from rfl, ms0_n t0, ms0_n t1, ms0_e]
        have r := rr_6 he.2 t0 t1 hc40 hd0 hRR (T := I 96) (b := (tkB (I 96) len p))
        rw [decide_eq_true tb9, if_neg (show ¬ c < 40 by omega)] at r
        exact ⟨rfl, Or.inr ⟨rfl, rfl, rfl, _, _, _, _, _, _, _, hS3, r, rfl⟩⟩)
      ·
        refine a_callV (Q' := (tq0 I J R (tkB (I 96) len (tkE (I 96) len (tkE (I 96) len p))) D (va_up (va_up (va_up A 1 (-1)) 2 (-1)) 1 (nI (vN (I 96) len (tkE (I 96) len p)))))) (as := [.int (nI 2)]) (st := []) dM_weekLine_111 ml12_182 rfl (Nat.le_of_ble_eq_true rfl) ly_95 rfl rfl (by decide) (by omega) (Nat.le_of_ble_eq_true rfl) rfl (Nat.le_refl _) (Nat.le_refl _) (r_takeHouse0 (D := D) (A := (va_up (va_up (va_up A 1 (-1)) 2 (-1)) 1 (nI (vN (I 96) len (tkE (I 96) len p))))) hn hR hl6 hby q1 hS2 t1) ?_
        intro v9 I9 J9 R9 ⟨e1, ⟨w9, e2⟩, e3, F9, h15, e4⟩
        rw [e1, e2, e3, e4]
        show AW _ _ _ _ _ _ _ _ [.int 0] (m_row (m_row (m_row I 95 F9) 104 D) 105 (va_up (va_up (va_up A 1 (-1)) 2 (-1)) 1 (nI (vN (I 96) len (tkE (I 96) len p))))) _ _ _
        refine a_if_ne (tgt := 119) dM_weekLine_114 (by decide) (fun c => False.elim (c rfl)) (fun _ => ?_)
        refine a_iconstN (a := 0) dM_weekLine_117 (by decide) ?_
        exact a_zret dM_weekLine_118 rfl (by rfl) (by
        rw [olq, show shA 6 = [false, false] from rfl, ms0_n t0, ms0_n0 t1]
        exact ⟨rfl, Or.inl ⟨rfl, rfl, ⟨_, rfl⟩, _, _, _, h15, rfl⟩⟩)
    ·
      refine a_callV (Q' := (tq0 I J R (tkB (I 96) len (tkE (I 96) len p)) D (va_up (va_up A 1 (-1)) 2 (-1)))) (as := [.int (nI 1), .int (-1)]) (st := []) dM_weekLine_97 ml12_193 rfl (Nat.le_of_ble_eq_true rfl) ly_95 rfl rfl (by decide) (by omega) (Nat.le_of_ble_eq_true rfl) rfl (Nat.le_refl _) (Nat.le_refl _) (r_takeLetter0 (D := D) (A := (va_up (va_up A 1 (-1)) 2 (-1))) hn hR hl6 hby he.2 hS1 t0) ?_
      intro v9 I9 J9 R9 ⟨e1, ⟨w9, e2⟩, e3, F9, h15, e4⟩
      rw [e1, e2, e3, e4]
      show AW _ _ _ _ _ _ _ _ [.int 0] (m_row (m_row (m_row I 95 F9) 104 D) 105 (va_up (va_up A 1 (-1)) 2 (-1))) _ _ _
      refine a_if_eq (tgt := 117) dM_weekLine_100 (by decide) (fun _ => ?_) (fun c => False.elim (c rfl))
      refine a_iconstN (a := 0) dM_weekLine_117 (by decide) ?_
      exact a_zret dM_weekLine_118 rfl (by rfl) (by
        rw [olq, show shA 6 = [false, false] from rfl, ms0_n0 t0]
        exact ⟨rfl, Or.inl ⟨rfl, rfl, ⟨_, rfl⟩, _, _, _, h15, rfl⟩⟩)
  · have hc9 : c < 40 := by
      rcases Nat.lt_or_ge c 40 with q | q
      · exact q
      · exact absurd (by rw [hd0]; congr 1; omega) tb9
    refine a_lload_n 1 dM_weekLine_0 rfl rfl ?_
    refine a_ldc2 (v := 1734964837) dM_weekLine_1 cn12_218 ?_
    refine a_lcmp dM_weekLine_4 ?_
    refine a_if_ne (tgt := 12) dM_weekLine_5 (by decide) (fun _ => ?_) (fun c => False.elim (n5 (hw5.mp c)))
    refine a_lload_n 1 dM_weekLine_12 rfl rfl ?_
    refine a_ldc2 (v := 1936484720) dM_weekLine_13 cn12_220 ?_
    refine a_lcmp dM_weekLine_16 ?_
    refine a_if_ne (tgt := 24) dM_weekLine_17 (by decide) (fun c => False.elim (c (hw6.mpr y6))) (fun _ => ?_)
    refine a_iconstN (a := 1) dM_weekLine_20 (by decide) ?_
    refine a_goto (tgt := 49) dM_weekLine_21 (by decide) ?_
    refine a_istore (lv' := [(4, .int (nI 1)), (0, .ref 95), (1, .long wv), (3, .int (nI (tkB (I 96) len p)))]) dM_weekLine_49 (by decide) rfl ?_
    refine a_iload 0 dM_weekLine_51 rfl ?_
    refine a_iconst (v := -1) dM_weekLine_53 (by decide) ?_
    refine a_icmp_ne (tgt := 62) dM_weekLine_54 (by decide) (fun _ => ?_) (fun c => False.elim (absurd c (by decide)))
    refine a_aload_n 1 dM_weekLine_62 rfl rfl ?_
    refine a_iconstN (a := 0) dM_weekLine_63 (by decide) ?_
    refine a_bipushN (a := 40) dM_weekLine_64 (by decide) ?_
    refine a_iload_n 3 dM_weekLine_66 rfl rfl ?_
    refine a_callV (Q' := m_res none (m_row (m_row (m_row I 95 F) 104 D) 105 A) (m_up J 95 14 w) R) (as := [.int (nI 0), .int (nI 40), .int (nI (tkB (I 96) len p))]) (st := []) dM_weekLine_67 ml12_189 rfl (Nat.le_of_ble_eq_true rfl) ly_95 rfl rfl (by decide) (by omega) (Nat.le_of_ble_eq_true rfl) rfl (Nat.le_refl _) (Nat.le_refl _) (c_full0 hn hR (by decide) tb9) (m_go ?_)
    show AW _ _ _ _ _ _ _ _ [] _ _ _ _
    refine a_aload_n 1 dM_weekLine_70 rfl rfl ?_
    refine a_callV (Q' := m_res none (m_row (m_row (m_row I 95 (tkG (I 96) len (tkE (I 96) len p) F)) 104 D) 105 A) (m_up J 95 14 (tkW (I 96) len (tkE (I 96) len p))) R) (as := []) (st := []) dM_weekLine_71 ml12_154 rfl (Nat.le_of_ble_eq_true rfl) ly_95 rfl rfl (by decide) (by omega) (Nat.le_of_ble_eq_true rfl) rfl (Nat.le_refl _) (Nat.le_refl _) (c_tok (S := S) (d := d + 4) (n := n) (F := F) (D := D) (A := A) (w := w) hn hR hl6 hby he.2 hS.h9 hS.h10) (m_go ?_)
    show AW _ _ _ _ _ _ _ _ [] _ _ _ _
    show AW _ _ _ _ _ _ _ _ [] (m_row (m_row (m_row I 95 (tkG (I 96) len (tkE (I 96) len p) F)) 104 D) 105 A) _ _ _
    refine a_aload_n 1 dM_weekLine_74 rfl rfl ?_
    refine a_geta (r := 105) dM_weekLine_75 fl12_38 rfl ly_95 (by omega) (rf_95_19 hR) ?_
    refine a_iconstN (a := 1) dM_weekLine_78 (by decide) ?_
    refine a_iconst (v := -1) dM_weekLine_79 (by decide) ?_
    refine a_iastN (a := 1) dM_weekLine_80 ly_105 (by omega) (by omega) (by decide) ?_
    rw [show m_up (m_row (m_row (m_row I 95 (tkG (I 96) len (tkE (I 96) len p) F)) 104 D) 105 A) 105 1 (-1) = (m_row (m_row (m_row I 95 (tkG (I 96) len (tkE (I 96) len p) F)) 104 D) 105 (va_up A 1 (-1))) from (by rw [m_up_r])]
    refine a_aload_n 1 dM_weekLine_81 rfl rfl ?_
    refine a_geta (r := 105) dM_weekLine_82 fl12_38 rfl ly_95 (by omega) (rf_95_19 hR) ?_
    refine a_iconstN (a := 2) dM_weekLine_85 (by decide) ?_
    refine a_iconst (v := -1) dM_weekLine_86 (by decide) ?_
    refine a_iastN (a := 2) dM_weekLine_87 ly_105 (by omega) (by omega) (by decide) ?_
    rw [show m_up (m_row (m_row (m_row I 95 (tkG (I 96) len (tkE (I 96) len p) F)) 104 D) 105 (va_up A 1 (-1))) 105 2 (-1) = (m_row (m_row (m_row I 95 (tkG (I 96) len (tkE (I 96) len p) F)) 104 D) 105 (va_up (va_up A 1 (-1)) 2 (-1))) from (by rw [m_up_r])]
    refine a_iload 0 dM_weekLine_88 rfl ?_
    refine a_iconstN (a := 3) dM_weekLine_90 (by decide) ?_
    refine a_icmp_eqN (tgt := 103) dM_weekLine_91 (by decide) (by omega) (by omega) (fun c => False.elim (by omega)) (fun _ => ?_)
    refine a_aload_n 1 dM_weekLine_94 rfl rfl ?_
    refine a_iconstN (a := 1) dM_weekLine_95 (by decide) ?_
    refine a_iconst (v := -1) dM_weekLine_96 (by decide) ?_
    have hS1 : RS (I 96) len (tkE (I 96) len p) x gh gl 1 (tkG (I 96) len (tkE (I 96) len p) F) := (RS_tk hby he.2 hS.h10 hS.f5 hS.h16 hS.h17 (fun z => Nat.lt_of_lt_of_le (hS.hlp z) (Nat.le_trans hb.1 he.1)) hS.h20 hS.h21 hS.h22)
    by_cases t0 : tkS (I 96) len (tkE (I 96) len p) = 2
    · have q1 : (tkE (I 96) len (tkE (I 96) len p)) ≤ len := (tkE_le (T := I 96) he.2).2
      refine a_callV (Q' := (tq1 I J R len (tkE (I 96) len (tkE (I 96) len p)) (s1 x (bdB (vN (I 96) len (tkE (I 96) len p)) 0 9 || decide (nI (vN (I 96) len (tkE (I 96) len p)) = -1)) (2, (tkB (I 96) len (tkE (I 96) len p)))) gh (mxI gl (vN (I 96) len (tkE (I 96) len p))) (if (bdB (vN (I 96) len (tkE (I 96) len p)) 0 9 || decide (nI (vN (I 96) len (tkE (I 96) len p)) = -1)) = true then 0 else 1) D (va_up (va_up (va_up A 1 (-1)) 2 (-1)) 1 (nI (vN (I 96) len (tkE (I 96) len p)))))) (as := [.int (nI 1), .int (-1)]) (st := []) dM_weekLine_97 ml12_193 rfl (Nat.le_of_ble_eq_true rfl) ly_95 rfl rfl (by decide) (by omega) (Nat.le_of_ble_eq_true rfl) rfl (Nat.le_refl _) (Nat.le_refl _) (r_takeLetter1 (D := D) (A := (va_up (va_up A 1 (-1)) 2 (-1))) hn hR hl6 hby he.2 hS1 (by decide) t0) ?_
      intro v9 I9 J9 R9 ⟨e1, e2, e3, F2, hS2, e4⟩
      rw [e1, e2, e3, e4]
      show AW _ _ _ _ _ _ _ _ [.int 1] (m_row (m_row (m_row I 95 F2) 104 D) 105 (va_up (va_up (va_up A 1 (-1)) 2 (-1)) 1 (nI (vN (I 96) len (tkE (I 96) len p))))) _ _ _
      refine a_if_eq (tgt := 117) dM_weekLine_100 (by decide) (fun c => False.elim (absurd c (by decide))) (fun _ => ?_)
      refine a_iload 0 dM_weekLine_103 rfl ?_
      refine a_iconstN (a := 1) dM_weekLine_105 (by decide) ?_
      refine a_icmp_neN (tgt := 119) dM_weekLine_106 (by decide) (by omega) (by omega) (fun c => False.elim (by omega)) (fun _ => ?_)
      refine a_aload_n 1 dM_weekLine_109 rfl rfl ?_
      refine a_iconstN (a := 2) dM_weekLine_110 (by decide) ?_
      by_cases t1 : tkS (I 96) len (tkE (I 96) len (tkE (I 96) len p)) = 2
      ·
        refine a_callV (Q' := (tq1 I J R len (tkE (I 96) len (tkE (I 96) len (tkE (I 96) len p))) (s1 (s1 x (bdB (vN (I 96) len (tkE (I 96) len p)) 0 9 || decide (nI (vN (I 96) len (tkE (I 96) len p)) = -1)) (2, (tkB (I 96) len (tkE (I 96) len p)))) (bdB (vN (I 96) len (tkE (I 96) len (tkE (I 96) len p))) 0 5) (2, (tkB (I 96) len (tkE (I 96) len (tkE (I 96) len p))))) (mxI gh (vN (I 96) len (tkE (I 96) len (tkE (I 96) len p)))) (mxI gl (vN (I 96) len (tkE (I 96) len p))) (if (bdB (vN (I 96) len (tkE (I 96) len (tkE (I 96) len p))) 0 5) = true then 0 else (if (bdB (vN (I 96) len (tkE (I 96) len p)) 0 9 || decide (nI (vN (I 96) len (tkE (I 96) len p)) = -1)) = true then 0 else 1)) D (va_up (va_up (va_up (va_up A 1 (-1)) 2 (-1)) 1 (nI (vN (I 96) len (tkE (I 96) len p)))) 2 (nI (vN (I 96) len (tkE (I 96) len (tkE (I 96) len p))))))) (as := [.int (nI 2)]) (st := []) dM_weekLine_111 ml12_182 rfl (Nat.le_of_ble_eq_true rfl) ly_95 rfl rfl (by decide) (by omega) (Nat.le_of_ble_eq_true rfl) rfl (Nat.le_refl _) (Nat.le_refl _) (r_takeHouse1 (D := D) (A := (va_up (va_up (va_up A 1 (-1)) 2 (-1)) 1 (nI (vN (I 96) len (tkE (I 96) len p))))) hn hR hl6 hby q1 hS2 (by decide) t1) ?_
        intro v9 I9 J9 R9 ⟨e1, e2, e3, F3, hS3, e4⟩
        rw [e1, e2, e3, e4]
        show AW _ _ _ _ _ _ _ _ [.int 1] (m_row (m_row (m_row I 95 F3) 104 D) 105 (va_up (va_up (va_up (va_up A 1 (-1)) 2 (-1)) 1 (nI (vN (I 96) len (tkE (I 96) len p)))) 2 (nI (vN (I 96) len (tkE (I 96) len (tkE (I 96) len p)))))) _ _ _
        refine a_if_ne (tgt := 119) dM_weekLine_114 (by decide) (fun _ => ?_) (fun c => False.elim (absurd c (by decide)))
        refine a_aload_n 1 dM_weekLine_119 rfl rfl ?_
        refine a_geta (r := 105) dM_weekLine_120 fl12_38 rfl ly_95 (by omega) (rf_95_19 hR) ?_
        refine a_iconstN (a := 0) dM_weekLine_123 (by decide) ?_
        refine a_iload 0 dM_weekLine_124 rfl ?_
        refine a_iastN (a := 0) dM_weekLine_126 ly_105 (by omega) (by omega) (by decide) ?_
        rw [show m_up (m_row (m_row (m_row I 95 F3) 104 D) 105 (va_up (va_up (va_up (va_up A 1 (-1)) 2 (-1)) 1 (nI (vN (I 96) len (tkE (I 96) len p)))) 2 (nI (vN (I 96) len (tkE (I 96) len (tkE (I 96) len p)))))) 105 0 (nI 1) = (m_row (m_row (m_row I 95 F3) 104 D) 105 (va_up (va_up (va_up (va_up (va_up A 0 (nI 1)) 1 (-1)) 2 (-1)) 1 (nI (vN (I 96) len (tkE (I 96) len p)))) 2 (nI (vN (I 96) len (tkE (I 96) len (tkE (I 96) len p)))))) from (by rw [m_up_r, show va_up (va_up (va_up (va_up (va_up A 1 (-1)) 2 (-1)) 1 (nI (vN (I 96) len (tkE (I 96) len p)))) 2 (nI (vN (I 96) len (tkE (I 96) len (tkE (I 96) len p))))) 0 (nI 1) = (va_up (va_up (va_up (va_up (va_up A 0 (nI 1)) 1 (-1)) 2 (-1)) 1 (nI (vN (I 96) len (tkE (I 96) len p)))) 2 (nI (vN (I 96) len (tkE (I 96) len (tkE (I 96) len p))))) from ((va_uc (by decide)).trans (congrArg (fun g => va_up g 2 (nI (vN (I 96) len (tkE (I 96) len (tkE (I 96) len p))))) ((va_uc (by decide)).trans (congrArg (fun g => va_up g 1 (nI (vN (I 96) len (tkE (I 96) len p)))) ((va_uc (by decide)).trans (congrArg (fun g => va_up g 2 (-1)) ((va_uc (by decide)).trans (congrArg (fun g => va_up g 1 (-1)) rfl))))))))])]
        refine a_aload_n 1 dM_weekLine_127 rfl rfl ?_
        refine a_iconstN (a := 3) dM_weekLine_128 (by decide) ?_
        refine a_bipushN (a := 40) dM_weekLine_129 (by decide) ?_
        refine a_callV (Q' := m_res none (mRd I F3 (wkU D c (nI 1) (nI (vN (I 96) len (tkE (I 96) len p))) (nI (vN (I 96) len (tkE (I 96) len (tkE (I 96) len p))))) (va_up (va_up (va_up (va_up (va_up A 0 (nI 1)) 1 (-1)) 2 (-1)) 1 (nI (vN (I 96) len (tkE (I 96) len p)))) 2 (nI (vN (I 96) len (tkE (I 96) len (tkE (I 96) len p)))))) (m_up J 95 14 (tkW (I 96) len (tkE (I 96) len (tkE (I 96) len (tkE (I 96) len p))))) R) (as := [.int (nI 3), .int (nI 40)]) (st := []) dM_weekLine_131 ml12_226 rfl (Nat.le_of_ble_eq_true rfl) ly_95 rfl rfl (by decide) (by omega) (Nat.le_of_ble_eq_true rfl) rfl (Nat.le_refl _) (Nat.le_refl _) (by have q := c_keep3_1 (S := S) (d := d + 5) (n := n) (I := I) (J := (m_up J 95 14 (tkW (I 96) len (tkE (I 96) len (tkE (I 96) len (tkE (I 96) len p)))))) (R := R) (F := F3) (D := D) (A := (va_up (va_up (va_up (va_up (va_up A 0 (nI 1)) 1 (-1)) 2 (-1)) 1 (nI (vN (I 96) len (tkE (I 96) len p)))) 2 (nI (vN (I 96) len (tkE (I 96) len (tkE (I 96) len p)))))) hn hR hd0 hc9; rw [show (va_up (va_up (va_up (va_up (va_up A 0 (nI 1)) 1 (-1)) 2 (-1)) 1 (nI (vN (I 96) len (tkE (I 96) len p)))) 2 (nI (vN (I 96) len (tkE (I 96) len (tkE (I 96) len p))))) 0 = nI 1 from rfl, show (va_up (va_up (va_up (va_up (va_up A 0 (nI 1)) 1 (-1)) 2 (-1)) 1 (nI (vN (I 96) len (tkE (I 96) len p)))) 2 (nI (vN (I 96) len (tkE (I 96) len (tkE (I 96) len p))))) 1 = nI (vN (I 96) len (tkE (I 96) len p)) from rfl, show (va_up (va_up (va_up (va_up (va_up A 0 (nI 1)) 1 (-1)) 2 (-1)) 1 (nI (vN (I 96) len (tkE (I 96) len p)))) 2 (nI (vN (I 96) len (tkE (I 96) len (tkE (I 96) len p))))) 2 = nI (vN (I 96) len (tkE (I 96) len (tkE (I 96) len p))) from rfl] at q; exact q) (m_go ?_)
        show AW _ _ _ _ _ _ _ _ [] _ _ _ _
        refine a_iconstN (a := 1) dM_weekLine_134 (by decide) ?_
        exact a_zret dM_weekLine_135 rfl (by rfl) (by
        rw [olq, show shA 6 = [false, false] from rfl, ms0_n t0, ms0_n t1, ms0_e]
        have r := rr_6 he.2 t0 t1 hc40 hd0 hRR (T := I 96) (b := (tkB (I 96) len p))
        rw [decide_eq_false tb9, s1_f, if_pos hc9] at r
        exact ⟨rfl, Or.inr ⟨rfl, rfl, rfl, _, _, _, _, _, _, _, hS3, r, rfl⟩⟩)
      ·
        refine a_callV (Q' := (tq0 I J R (tkB (I 96) len (tkE (I 96) len (tkE (I 96) len p))) D (va_up (va_up (va_up A 1 (-1)) 2 (-1)) 1 (nI (vN (I 96) len (tkE (I 96) len p)))))) (as := [.int (nI 2)]) (st := []) dM_weekLine_111 ml12_182 rfl (Nat.le_of_ble_eq_true rfl) ly_95 rfl rfl (by decide) (by omega) (Nat.le_of_ble_eq_true rfl) rfl (Nat.le_refl _) (Nat.le_refl _) (r_takeHouse0 (D := D) (A := (va_up (va_up (va_up A 1 (-1)) 2 (-1)) 1 (nI (vN (I 96) len (tkE (I 96) len p))))) hn hR hl6 hby q1 hS2 t1) ?_
        intro v9 I9 J9 R9 ⟨e1, ⟨w9, e2⟩, e3, F9, h15, e4⟩
        rw [e1, e2, e3, e4]
        show AW _ _ _ _ _ _ _ _ [.int 0] (m_row (m_row (m_row I 95 F9) 104 D) 105 (va_up (va_up (va_up A 1 (-1)) 2 (-1)) 1 (nI (vN (I 96) len (tkE (I 96) len p))))) _ _ _
        refine a_if_ne (tgt := 119) dM_weekLine_114 (by decide) (fun c => False.elim (c rfl)) (fun _ => ?_)
        refine a_iconstN (a := 0) dM_weekLine_117 (by decide) ?_
        exact a_zret dM_weekLine_118 rfl (by rfl) (by
        rw [olq, show shA 6 = [false, false] from rfl, ms0_n t0, ms0_n0 t1]
        exact ⟨rfl, Or.inl ⟨rfl, rfl, ⟨_, rfl⟩, _, _, _, h15, rfl⟩⟩)
    ·
      refine a_callV (Q' := (tq0 I J R (tkB (I 96) len (tkE (I 96) len p)) D (va_up (va_up A 1 (-1)) 2 (-1)))) (as := [.int (nI 1), .int (-1)]) (st := []) dM_weekLine_97 ml12_193 rfl (Nat.le_of_ble_eq_true rfl) ly_95 rfl rfl (by decide) (by omega) (Nat.le_of_ble_eq_true rfl) rfl (Nat.le_refl _) (Nat.le_refl _) (r_takeLetter0 (D := D) (A := (va_up (va_up A 1 (-1)) 2 (-1))) hn hR hl6 hby he.2 hS1 t0) ?_
      intro v9 I9 J9 R9 ⟨e1, ⟨w9, e2⟩, e3, F9, h15, e4⟩
      rw [e1, e2, e3, e4]
      show AW _ _ _ _ _ _ _ _ [.int 0] (m_row (m_row (m_row I 95 F9) 104 D) 105 (va_up (va_up A 1 (-1)) 2 (-1))) _ _ _
      refine a_if_eq (tgt := 117) dM_weekLine_100 (by decide) (fun _ => ?_) (fun c => False.elim (c rfl))
      refine a_iconstN (a := 0) dM_weekLine_117 (by decide) ?_
      exact a_zret dM_weekLine_118 rfl (by rfl) (by
        rw [olq, show shA 6 = [false, false] from rfl, ms0_n0 t0]
        exact ⟨rfl, Or.inl ⟨rfl, rfl, ⟨_, rfl⟩, _, _, _, h15, rfl⟩⟩)
theorem r_wk7 {S : Nat × (Nat → Int32)} {d n : Nat} {I : mI} {J : mJ} {R : mR} (hn : 122 ≤ n) (hR : m_fin R) {len : Nat} (hl6 : len ≤ 600) (hby : byT (I 96) len) {p : Nat} (hp : p ≤ len) {x : Nat × Nat} {gh gl : Int32} {F D A : Nat → Int32} (hS : RS (I 96) len p x gh gl 1 F) {w wv : Int64} (hw5 : lg_cmp wv 1734964837 = 0 ↔ iwT (I 96) len p 5) (hw6 : lg_cmp wv 1936484720 = 0 ↔ iwT (I 96) len p 6) (hw7 : lg_cmp wv 1651864174 = 0 ↔ iwT (I 96) len p 7) (hw8 : lg_cmp wv 474214787188 = 0 ↔ iwT (I 96) len p 8) (y7 : iwT (I 96) len p 7) (n5 : ¬ iwT (I 96) len p 5) (n6 : ¬ iwT (I 96) len p 6) (n8 : ¬ iwT (I 96) len p 8) {st : TS} (hRR : RR 1 st x gh gl D) : AW S (d + 6) YM_weekLine n n (olq I J R len 7 1 p st) 0 [(0, .ref 95), (1, .long wv), (3, .int (nI (tkB (I 96) len p)))] [] (m_row (m_row (m_row I 95 F) 104 D) 105 A) (m_up J 95 14 w) R n := by
  have hb := tkB_le (T := I 96) hp
  have he := tkE_le (T := I 96) hp
  have hbe := tkE_lt (T := I 96) hp (tk_wd y7.1).1
  obtain ⟨c, hc40, hd0⟩ := hRR.2.2.2.2.1 rfl
  by_cases tb9 : D 0 = nI 40
  · have lt9 := ltF_s (F := F) (q := (tkB (I 96) len p)) hS.f5 (show 3 < 5 by decide) hS.h16 hS.h17
    have hc9 : c = 40 := by rw [hd0] at tb9; exact (nI_eq (by omega) (by decide)).mp tb9
    refine a_lload_n 1 dM_weekLine_0 rfl rfl ?_
    refine a_ldc2 (v := 1734964837) dM_weekLine_1 cn12_218 ?_
    refine a_lcmp dM_weekLine_4 ?_
    refine a_if_ne (tgt := 12) dM_weekLine_5 (by decide) (fun _ => ?_) (fun c => False.elim (n5 (hw5.mp c)))
    refine a_lload_n 1 dM_weekLine_12 rfl rfl ?_
    refine a_ldc2 (v := 1936484720) dM_weekLine_13 cn12_220 ?_
    refine a_lcmp dM_weekLine_16 ?_
    refine a_if_ne (tgt := 24) dM_weekLine_17 (by decide) (fun _ => ?_) (fun c => False.elim (n6 (hw6.mp c)))
    refine a_lload_n 1 dM_weekLine_24 rfl rfl ?_
    refine a_ldc2 (v := 1651864174) dM_weekLine_25 cn12_222 ?_
    refine a_lcmp dM_weekLine_28 ?_
    refine a_if_ne (tgt := 36) dM_weekLine_29 (by decide) (fun c => False.elim (c (hw7.mpr y7))) (fun _ => ?_)
    refine a_iconstN (a := 2) dM_weekLine_32 (by decide) ?_
    refine a_goto (tgt := 49) dM_weekLine_33 (by decide) ?_
    refine a_istore (lv' := [(4, .int (nI 2)), (0, .ref 95), (1, .long wv), (3, .int (nI (tkB (I 96) len p)))]) dM_weekLine_49 (by decide) rfl ?_
    refine a_iload 0 dM_weekLine_51 rfl ?_
    refine a_iconst (v := -1) dM_weekLine_53 (by decide) ?_
    refine a_icmp_ne (tgt := 62) dM_weekLine_54 (by decide) (fun _ => ?_) (fun c => False.elim (absurd c (by decide)))
    refine a_aload_n 1 dM_weekLine_62 rfl rfl ?_
    refine a_iconstN (a := 0) dM_weekLine_63 (by decide) ?_
    refine a_bipushN (a := 40) dM_weekLine_64 (by decide) ?_
    refine a_iload_n 3 dM_weekLine_66 rfl rfl ?_
    refine a_callV (Q' := m_res none (mRd I (ltF x F 3 (tkB (I 96) len p)) D A) (m_up J 95 14 w) R) (as := [.int (nI 0), .int (nI 40), .int (nI (tkB (I 96) len p))]) (st := []) dM_weekLine_67 ml12_189 rfl (Nat.le_of_ble_eq_true rfl) ly_95 rfl rfl (by decide) (by omega) (Nat.le_of_ble_eq_true rfl) rfl (Nat.le_refl _) (Nat.le_refl _) (c_full1 hn hR (by decide) hS.f5 hS.h16 hS.h17 (by omega) (fun z => Nat.lt_of_lt_of_le (hS.hlp z) hb.1) tb9) (m_go ?_)
    show AW _ _ _ _ _ _ _ _ [] _ _ _ _
    refine a_aload_n 1 dM_weekLine_70 rfl rfl ?_
    refine a_callV (Q' := m_res none (m_row (m_row (m_row I 95 (tkG (I 96) len (tkE (I 96) len p) (ltF x F 3 (tkB (I 96) len p)))) 104 D) 105 A) (m_up J 95 14 (tkW (I 96) len (tkE (I 96) len p))) R) (as := []) (st := []) dM_weekLine_71 ml12_154 rfl (Nat.le_of_ble_eq_true rfl) ly_95 rfl rfl (by decide) (by omega) (Nat.le_of_ble_eq_true rfl) rfl (Nat.le_refl _) (Nat.le_refl _) (c_tok (S := S) (d := d + 4) (n := n) (F := (ltF x F 3 (tkB (I 96) len p))) (D := D) (A := A) (w := w) hn hR hl6 hby he.2 ((ltF_o (by decide) (by decide)).trans hS.h9) ((ltF_o (by decide) (by decide)).trans hS.h10)) (m_go ?_)
    show AW _ _ _ _ _ _ _ _ [] _ _ _ _
    show AW _ _ _ _ _ _ _ _ [] (m_row (m_row (m_row I 95 (tkG (I 96) len (tkE (I 96) len p) (ltF x F 3 (tkB (I 96) len p)))) 104 D) 105 A) _ _ _
    refine a_aload_n 1 dM_weekLine_74 rfl rfl ?_
    refine a_geta (r := 105) dM_weekLine_75 fl12_38 rfl ly_95 (by omega) (rf_95_19 hR) ?_
    refine a_iconstN (a := 1) dM_weekLine_78 (by decide) ?_
    refine a_iconst (v := -1) dM_weekLine_79 (by decide) ?_
    refine a_iastN (a := 1) dM_weekLine_80 ly_105 (by omega) (by omega) (by decide) ?_
    rw [show m_up (m_row (m_row (m_row I 95 (tkG (I 96) len (tkE (I 96) len p) (ltF x F 3 (tkB (I 96) len p)))) 104 D) 105 A) 105 1 (-1) = (m_row (m_row (m_row I 95 (tkG (I 96) len (tkE (I 96) len p) (ltF x F 3 (tkB (I 96) len p)))) 104 D) 105 (va_up A 1 (-1))) from (by rw [m_up_r])]
    refine a_aload_n 1 dM_weekLine_81 rfl rfl ?_
    refine a_geta (r := 105) dM_weekLine_82 fl12_38 rfl ly_95 (by omega) (rf_95_19 hR) ?_
    refine a_iconstN (a := 2) dM_weekLine_85 (by decide) ?_
    refine a_iconst (v := -1) dM_weekLine_86 (by decide) ?_
    refine a_iastN (a := 2) dM_weekLine_87 ly_105 (by omega) (by omega) (by decide) ?_
    rw [show m_up (m_row (m_row (m_row I 95 (tkG (I 96) len (tkE (I 96) len p) (ltF x F 3 (tkB (I 96) len p)))) 104 D) 105 (va_up A 1 (-1))) 105 2 (-1) = (m_row (m_row (m_row I 95 (tkG (I 96) len (tkE (I 96) len p) (ltF x F 3 (tkB (I 96) len p)))) 104 D) 105 (va_up (va_up A 1 (-1)) 2 (-1))) from (by rw [m_up_r])]
    refine a_iload 0 dM_weekLine_88 rfl ?_
    refine a_iconstN (a := 3) dM_weekLine_90 (by decide) ?_
    refine a_icmp_eqN (tgt := 103) dM_weekLine_91 (by decide) (by omega) (by omega) (fun c => False.elim (by omega)) (fun _ => ?_)
    refine a_aload_n 1 dM_weekLine_94 rfl rfl ?_
    refine a_iconstN (a := 1) dM_weekLine_95 (by decide) ?_
    refine a_iconst (v := -1) dM_weekLine_96 (by decide) ?_
    have hS1 : RS (I 96) len (tkE (I 96) len p) (s1 x true (3, (tkB (I 96) len p))) gh gl 1 (tkG (I 96) len (tkE (I 96) len p) (ltF x F 3 (tkB (I 96) len p))) := (RS_tk (F := ltF x F 3 (tkB (I 96) len p)) hby he.2 ((ltF_o (by decide) (by decide)).trans hS.h10) lt9.1 lt9.2.1 lt9.2.2 (s1_lt (fun z => Nat.lt_of_lt_of_le (hS.hlp z) (Nat.le_trans hb.1 he.1)) hbe) ((ltF_o (by decide) (by decide)).trans hS.h20) ((ltF_o (by decide) (by decide)).trans hS.h21) ((ltF_o (by decide) (by decide)).trans hS.h22))
    by_cases t0 : tkS (I 96) len (tkE (I 96) len p) = 2
    · have q1 : (tkE (I 96) len (tkE (I 96) len p)) ≤ len := (tkE_le (T := I 96) he.2).2
      refine a_callV (Q' := (tq1 I J R len (tkE (I 96) len (tkE (I 96) len p)) (s1 (s1 x true (3, (tkB (I 96) len p))) (bdB (vN (I 96) len (tkE (I 96) len p)) 0 9 || decide (nI (vN (I 96) len (tkE (I 96) len p)) = -1)) (2, (tkB (I 96) len (tkE (I 96) len p)))) gh (mxI gl (vN (I 96) len (tkE (I 96) len p))) (if (bdB (vN (I 96) len (tkE (I 96) len p)) 0 9 || decide (nI (vN (I 96) len (tkE (I 96) len p)) = -1)) = true then 0 else 1) D (va_up (va_up (va_up A 1 (-1)) 2 (-1)) 1 (nI (vN (I 96) len (tkE (I 96) len p)))))) (as := [.int (nI 1), .int (-1)]) (st := []) dM_weekLine_97 ml12_193 rfl (Nat.le_of_ble_eq_true rfl) ly_95 rfl rfl (by decide) (by omega) (Nat.le_of_ble_eq_true rfl) rfl (Nat.le_refl _) (Nat.le_refl _) (r_takeLetter1 (D := D) (A := (va_up (va_up A 1 (-1)) 2 (-1))) hn hR hl6 hby he.2 hS1 (by decide) t0) ?_
      intro v9 I9 J9 R9 ⟨e1, e2, e3, F2, hS2, e4⟩
      rw [e1, e2, e3, e4]
      show AW _ _ _ _ _ _ _ _ [.int 1] (m_row (m_row (m_row I 95 F2) 104 D) 105 (va_up (va_up (va_up A 1 (-1)) 2 (-1)) 1 (nI (vN (I 96) len (tkE (I 96) len p))))) _ _ _
      refine a_if_eq (tgt := 117) dM_weekLine_100 (by decide) (fun c => False.elim (absurd c (by decide))) (fun _ => ?_)
      refine a_iload 0 dM_weekLine_103 rfl ?_
      refine a_iconstN (a := 1) dM_weekLine_105 (by decide) ?_
      refine a_icmp_neN (tgt := 119) dM_weekLine_106 (by decide) (by omega) (by omega) (fun _ => ?_) (fun c => False.elim (by omega))
      refine a_aload_n 1 dM_weekLine_119 rfl rfl ?_
      refine a_geta (r := 105) dM_weekLine_120 fl12_38 rfl ly_95 (by omega) (rf_95_19 hR) ?_
      refine a_iconstN (a := 0) dM_weekLine_123 (by decide) ?_
      refine a_iload 0 dM_weekLine_124 rfl ?_
      refine a_iastN (a := 0) dM_weekLine_126 ly_105 (by omega) (by omega) (by decide) ?_
      rw [show m_up (m_row (m_row (m_row I 95 F2) 104 D) 105 (va_up (va_up (va_up A 1 (-1)) 2 (-1)) 1 (nI (vN (I 96) len (tkE (I 96) len p))))) 105 0 (nI 2) = (m_row (m_row (m_row I 95 F2) 104 D) 105 (va_up (va_up (va_up (va_up A 0 (nI 2)) 1 (-1)) 2 (-1)) 1 (nI (vN (I 96) len (tkE (I 96) len p))))) from (by rw [m_up_r, show va_up (va_up (va_up (va_up A 1 (-1)) 2 (-1)) 1 (nI (vN (I 96) len (tkE (I 96) len p)))) 0 (nI 2) = (va_up (va_up (va_up (va_up A 0 (nI 2)) 1 (-1)) 2 (-1)) 1 (nI (vN (I 96) len (tkE (I 96) len p)))) from ((va_uc (by decide)).trans (congrArg (fun g => va_up g 1 (nI (vN (I 96) len (tkE (I 96) len p)))) ((va_uc (by decide)).trans (congrArg (fun g => va_up g 2 (-1)) ((va_uc (by decide)).trans (congrArg (fun g => va_up g 1 (-1)) rfl))))))])]
      refine a_aload_n 1 dM_weekLine_127 rfl rfl ?_
      refine a_iconstN (a := 3) dM_weekLine_128 (by decide) ?_
      refine a_bipushN (a := 40) dM_weekLine_129 (by decide) ?_
      refine a_callV (Q' := m_res none (m_row (m_row (m_row I 95 F2) 104 D) 105 (va_up (va_up (va_up (va_up A 0 (nI 2)) 1 (-1)) 2 (-1)) 1 (nI (vN (I 96) len (tkE (I 96) len p))))) (m_up J 95 14 (tkW (I 96) len (tkE (I 96) len (tkE (I 96) len p)))) R) (as := [.int (nI 3), .int (nI 40)]) (st := []) dM_weekLine_131 ml12_226 rfl (Nat.le_of_ble_eq_true rfl) ly_95 rfl rfl (by decide) (by omega) (Nat.le_of_ble_eq_true rfl) rfl (Nat.le_refl _) (Nat.le_refl _) (c_keep3_0 hn hR tb9) (m_go ?_)
      show AW _ _ _ _ _ _ _ _ [] _ _ _ _
      refine a_iconstN (a := 1) dM_weekLine_134 (by decide) ?_
      exact a_zret dM_weekLine_135 rfl (by rfl) (by
        rw [olq, show shA 7 = [false] from rfl, ms0_n t0, ms0_e]
        have r := rr_7 he.2 t0 hc40 hd0 hRR (T := I 96) (b := (tkB (I 96) len p))
        rw [decide_eq_true tb9, if_neg (show ¬ c < 40 by omega)] at r
        exact ⟨rfl, Or.inr ⟨rfl, rfl, rfl, _, _, _, _, _, _, _, hS2, r, rfl⟩⟩)
    ·
      refine a_callV (Q' := (tq0 I J R (tkB (I 96) len (tkE (I 96) len p)) D (va_up (va_up A 1 (-1)) 2 (-1)))) (as := [.int (nI 1), .int (-1)]) (st := []) dM_weekLine_97 ml12_193 rfl (Nat.le_of_ble_eq_true rfl) ly_95 rfl rfl (by decide) (by omega) (Nat.le_of_ble_eq_true rfl) rfl (Nat.le_refl _) (Nat.le_refl _) (r_takeLetter0 (D := D) (A := (va_up (va_up A 1 (-1)) 2 (-1))) hn hR hl6 hby he.2 hS1 t0) ?_
      intro v9 I9 J9 R9 ⟨e1, ⟨w9, e2⟩, e3, F9, h15, e4⟩
      rw [e1, e2, e3, e4]
      show AW _ _ _ _ _ _ _ _ [.int 0] (m_row (m_row (m_row I 95 F9) 104 D) 105 (va_up (va_up A 1 (-1)) 2 (-1))) _ _ _
      refine a_if_eq (tgt := 117) dM_weekLine_100 (by decide) (fun _ => ?_) (fun c => False.elim (c rfl))
      refine a_iconstN (a := 0) dM_weekLine_117 (by decide) ?_
      exact a_zret dM_weekLine_118 rfl (by rfl) (by
        rw [olq, show shA 7 = [false] from rfl, ms0_n0 t0]
        exact ⟨rfl, Or.inl ⟨rfl, rfl, ⟨_, rfl⟩, _, _, _, h15, rfl⟩⟩)
  · have hc9 : c < 40 := by
      rcases Nat.lt_or_ge c 40 with q | q
      · exact q
      · exact absurd (by rw [hd0]; congr 1; omega) tb9
    refine a_lload_n 1 dM_weekLine_0 rfl rfl ?_
    refine a_ldc2 (v := 1734964837) dM_weekLine_1 cn12_218 ?_
    refine a_lcmp dM_weekLine_4 ?_
    refine a_if_ne (tgt := 12) dM_weekLine_5 (by decide) (fun _ => ?_) (fun c => False.elim (n5 (hw5.mp c)))
    refine a_lload_n 1 dM_weekLine_12 rfl rfl ?_
    refine a_ldc2 (v := 1936484720) dM_weekLine_13 cn12_220 ?_
    refine a_lcmp dM_weekLine_16 ?_
    refine a_if_ne (tgt := 24) dM_weekLine_17 (by decide) (fun _ => ?_) (fun c => False.elim (n6 (hw6.mp c)))
    refine a_lload_n 1 dM_weekLine_24 rfl rfl ?_
    refine a_ldc2 (v := 1651864174) dM_weekLine_25 cn12_222 ?_
    refine a_lcmp dM_weekLine_28 ?_
    refine a_if_ne (tgt := 36) dM_weekLine_29 (by decide) (fun c => False.elim (c (hw7.mpr y7))) (fun _ => ?_)
    refine a_iconstN (a := 2) dM_weekLine_32 (by decide) ?_
    refine a_goto (tgt := 49) dM_weekLine_33 (by decide) ?_
    refine a_istore (lv' := [(4, .int (nI 2)), (0, .ref 95), (1, .long wv), (3, .int (nI (tkB (I 96) len p)))]) dM_weekLine_49 (by decide) rfl ?_
    refine a_iload 0 dM_weekLine_51 rfl ?_
    refine a_iconst (v := -1) dM_weekLine_53 (by decide) ?_
    refine a_icmp_ne (tgt := 62) dM_weekLine_54 (by decide) (fun _ => ?_) (fun c => False.elim (absurd c (by decide)))
    refine a_aload_n 1 dM_weekLine_62 rfl rfl ?_
    refine a_iconstN (a := 0) dM_weekLine_63 (by decide) ?_
    refine a_bipushN (a := 40) dM_weekLine_64 (by decide) ?_
    refine a_iload_n 3 dM_weekLine_66 rfl rfl ?_
    refine a_callV (Q' := m_res none (m_row (m_row (m_row I 95 F) 104 D) 105 A) (m_up J 95 14 w) R) (as := [.int (nI 0), .int (nI 40), .int (nI (tkB (I 96) len p))]) (st := []) dM_weekLine_67 ml12_189 rfl (Nat.le_of_ble_eq_true rfl) ly_95 rfl rfl (by decide) (by omega) (Nat.le_of_ble_eq_true rfl) rfl (Nat.le_refl _) (Nat.le_refl _) (c_full0 hn hR (by decide) tb9) (m_go ?_)
    show AW _ _ _ _ _ _ _ _ [] _ _ _ _
    refine a_aload_n 1 dM_weekLine_70 rfl rfl ?_
    refine a_callV (Q' := m_res none (m_row (m_row (m_row I 95 (tkG (I 96) len (tkE (I 96) len p) F)) 104 D) 105 A) (m_up J 95 14 (tkW (I 96) len (tkE (I 96) len p))) R) (as := []) (st := []) dM_weekLine_71 ml12_154 rfl (Nat.le_of_ble_eq_true rfl) ly_95 rfl rfl (by decide) (by omega) (Nat.le_of_ble_eq_true rfl) rfl (Nat.le_refl _) (Nat.le_refl _) (c_tok (S := S) (d := d + 4) (n := n) (F := F) (D := D) (A := A) (w := w) hn hR hl6 hby he.2 hS.h9 hS.h10) (m_go ?_)
    show AW _ _ _ _ _ _ _ _ [] _ _ _ _
    show AW _ _ _ _ _ _ _ _ [] (m_row (m_row (m_row I 95 (tkG (I 96) len (tkE (I 96) len p) F)) 104 D) 105 A) _ _ _
    refine a_aload_n 1 dM_weekLine_74 rfl rfl ?_
    refine a_geta (r := 105) dM_weekLine_75 fl12_38 rfl ly_95 (by omega) (rf_95_19 hR) ?_
    refine a_iconstN (a := 1) dM_weekLine_78 (by decide) ?_
    refine a_iconst (v := -1) dM_weekLine_79 (by decide) ?_
    refine a_iastN (a := 1) dM_weekLine_80 ly_105 (by omega) (by omega) (by decide) ?_
    rw [show m_up (m_row (m_row (m_row I 95 (tkG (I 96) len (tkE (I 96) len p) F)) 104 D) 105 A) 105 1 (-1) = (m_row (m_row (m_row I 95 (tkG (I 96) len (tkE (I 96) len p) F)) 104 D) 105 (va_up A 1 (-1))) from (by rw [m_up_r])]
    refine a_aload_n 1 dM_weekLine_81 rfl rfl ?_
    refine a_geta (r := 105) dM_weekLine_82 fl12_38 rfl ly_95 (by omega) (rf_95_19 hR) ?_
    refine a_iconstN (a := 2) dM_weekLine_85 (by decide) ?_
    refine a_iconst (v := -1) dM_weekLine_86 (by decide) ?_
    refine a_iastN (a := 2) dM_weekLine_87 ly_105 (by omega) (by omega) (by decide) ?_
    rw [show m_up (m_row (m_row (m_row I 95 (tkG (I 96) len (tkE (I 96) len p) F)) 104 D) 105 (va_up A 1 (-1))) 105 2 (-1) = (m_row (m_row (m_row I 95 (tkG (I 96) len (tkE (I 96) len p) F)) 104 D) 105 (va_up (va_up A 1 (-1)) 2 (-1))) from (by rw [m_up_r])]
    refine a_iload 0 dM_weekLine_88 rfl ?_
    refine a_iconstN (a := 3) dM_weekLine_90 (by decide) ?_
    refine a_icmp_eqN (tgt := 103) dM_weekLine_91 (by decide) (by omega) (by omega) (fun c => False.elim (by omega)) (fun _ => ?_)
    refine a_aload_n 1 dM_weekLine_94 rfl rfl ?_
    refine a_iconstN (a := 1) dM_weekLine_95 (by decide) ?_
    refine a_iconst (v := -1) dM_weekLine_96 (by decide) ?_
    have hS1 : RS (I 96) len (tkE (I 96) len p) x gh gl 1 (tkG (I 96) len (tkE (I 96) len p) F) := (RS_tk hby he.2 hS.h10 hS.f5 hS.h16 hS.h17 (fun z => Nat.lt_of_lt_of_le (hS.hlp z) (Nat.le_trans hb.1 he.1)) hS.h20 hS.h21 hS.h22)
    by_cases t0 : tkS (I 96) len (tkE (I 96) len p) = 2
    · have q1 : (tkE (I 96) len (tkE (I 96) len p)) ≤ len := (tkE_le (T := I 96) he.2).2
      refine a_callV (Q' := (tq1 I J R len (tkE (I 96) len (tkE (I 96) len p)) (s1 x (bdB (vN (I 96) len (tkE (I 96) len p)) 0 9 || decide (nI (vN (I 96) len (tkE (I 96) len p)) = -1)) (2, (tkB (I 96) len (tkE (I 96) len p)))) gh (mxI gl (vN (I 96) len (tkE (I 96) len p))) (if (bdB (vN (I 96) len (tkE (I 96) len p)) 0 9 || decide (nI (vN (I 96) len (tkE (I 96) len p)) = -1)) = true then 0 else 1) D (va_up (va_up (va_up A 1 (-1)) 2 (-1)) 1 (nI (vN (I 96) len (tkE (I 96) len p)))))) (as := [.int (nI 1), .int (-1)]) (st := []) dM_weekLine_97 ml12_193 rfl (Nat.le_of_ble_eq_true rfl) ly_95 rfl rfl (by decide) (by omega) (Nat.le_of_ble_eq_true rfl) rfl (Nat.le_refl _) (Nat.le_refl _) (r_takeLetter1 (D := D) (A := (va_up (va_up A 1 (-1)) 2 (-1))) hn hR hl6 hby he.2 hS1 (by decide) t0) ?_
      intro v9 I9 J9 R9 ⟨e1, e2, e3, F2, hS2, e4⟩
      rw [e1, e2, e3, e4]
      show AW _ _ _ _ _ _ _ _ [.int 1] (m_row (m_row (m_row I 95 F2) 104 D) 105 (va_up (va_up (va_up A 1 (-1)) 2 (-1)) 1 (nI (vN (I 96) len (tkE (I 96) len p))))) _ _ _
      refine a_if_eq (tgt := 117) dM_weekLine_100 (by decide) (fun c => False.elim (absurd c (by decide))) (fun _ => ?_)
      refine a_iload 0 dM_weekLine_103 rfl ?_
      refine a_iconstN (a := 1) dM_weekLine_105 (by decide) ?_
      refine a_icmp_neN (tgt := 119) dM_weekLine_106 (by decide) (by omega) (by omega) (fun _ => ?_) (fun c => False.elim (by omega))
      refine a_aload_n 1 dM_weekLine_119 rfl rfl ?_
      refine a_geta (r := 105) dM_weekLine_120 fl12_38 rfl ly_95 (by omega) (rf_95_19 hR) ?_
      refine a_iconstN (a := 0) dM_weekLine_123 (by decide) ?_
      refine a_iload 0 dM_weekLine_124 rfl ?_
      refine a_iastN (a := 0) dM_weekLine_126 ly_105 (by omega) (by omega) (by decide) ?_
      rw [show m_up (m_row (m_row (m_row I 95 F2) 104 D) 105 (va_up (va_up (va_up A 1 (-1)) 2 (-1)) 1 (nI (vN (I 96) len (tkE (I 96) len p))))) 105 0 (nI 2) = (m_row (m_row (m_row I 95 F2) 104 D) 105 (va_up (va_up (va_up (va_up A 0 (nI 2)) 1 (-1)) 2 (-1)) 1 (nI (vN (I 96) len (tkE (I 96) len p))))) from (by rw [m_up_r, show va_up (va_up (va_up (va_up A 1 (-1)) 2 (-1)) 1 (nI (vN (I 96) len (tkE (I 96) len p)))) 0 (nI 2) = (va_up (va_up (va_up (va_up A 0 (nI 2)) 1 (-1)) 2 (-1)) 1 (nI (vN (I 96) len (tkE (I 96) len p)))) from ((va_uc (by decide)).trans (congrArg (fun g => va_up g 1 (nI (vN (I 96) len (tkE (I 96) len p)))) ((va_uc (by decide)).trans (congrArg (fun g => va_up g 2 (-1)) ((va_uc (by decide)).trans (congrArg (fun g => va_up g 1 (-1)) rfl))))))])]
      refine a_aload_n 1 dM_weekLine_127 rfl rfl ?_
      refine a_iconstN (a := 3) dM_weekLine_128 (by decide) ?_
      refine a_bipushN (a := 40) dM_weekLine_129 (by decide) ?_
      refine a_callV (Q' := m_res none (mRd I F2 (wkU D c (nI 2) (nI (vN (I 96) len (tkE (I 96) len p))) (-1)) (va_up (va_up (va_up (va_up A 0 (nI 2)) 1 (-1)) 2 (-1)) 1 (nI (vN (I 96) len (tkE (I 96) len p))))) (m_up J 95 14 (tkW (I 96) len (tkE (I 96) len (tkE (I 96) len p)))) R) (as := [.int (nI 3), .int (nI 40)]) (st := []) dM_weekLine_131 ml12_226 rfl (Nat.le_of_ble_eq_true rfl) ly_95 rfl rfl (by decide) (by omega) (Nat.le_of_ble_eq_true rfl) rfl (Nat.le_refl _) (Nat.le_refl _) (by have q := c_keep3_1 (S := S) (d := d + 5) (n := n) (I := I) (J := (m_up J 95 14 (tkW (I 96) len (tkE (I 96) len (tkE (I 96) len p))))) (R := R) (F := F2) (D := D) (A := (va_up (va_up (va_up (va_up A 0 (nI 2)) 1 (-1)) 2 (-1)) 1 (nI (vN (I 96) len (tkE (I 96) len p))))) hn hR hd0 hc9; rw [show (va_up (va_up (va_up (va_up A 0 (nI 2)) 1 (-1)) 2 (-1)) 1 (nI (vN (I 96) len (tkE (I 96) len p)))) 0 = nI 2 from rfl, show (va_up (va_up (va_up (va_up A 0 (nI 2)) 1 (-1)) 2 (-1)) 1 (nI (vN (I 96) len (tkE (I 96) len p)))) 1 = nI (vN (I 96) len (tkE (I 96) len p)) from rfl, show (va_up (va_up (va_up (va_up A 0 (nI 2)) 1 (-1)) 2 (-1)) 1 (nI (vN (I 96) len (tkE (I 96) len p)))) 2 = -1 from rfl] at q; exact q) (m_go ?_)
      show AW _ _ _ _ _ _ _ _ [] _ _ _ _
      refine a_iconstN (a := 1) dM_weekLine_134 (by decide) ?_
      exact a_zret dM_weekLine_135 rfl (by rfl) (by
        rw [olq, show shA 7 = [false] from rfl, ms0_n t0, ms0_e]
        have r := rr_7 he.2 t0 hc40 hd0 hRR (T := I 96) (b := (tkB (I 96) len p))
        rw [decide_eq_false tb9, s1_f, if_pos hc9] at r
        exact ⟨rfl, Or.inr ⟨rfl, rfl, rfl, _, _, _, _, _, _, _, hS2, r, rfl⟩⟩)
    ·
      refine a_callV (Q' := (tq0 I J R (tkB (I 96) len (tkE (I 96) len p)) D (va_up (va_up A 1 (-1)) 2 (-1)))) (as := [.int (nI 1), .int (-1)]) (st := []) dM_weekLine_97 ml12_193 rfl (Nat.le_of_ble_eq_true rfl) ly_95 rfl rfl (by decide) (by omega) (Nat.le_of_ble_eq_true rfl) rfl (Nat.le_refl _) (Nat.le_refl _) (r_takeLetter0 (D := D) (A := (va_up (va_up A 1 (-1)) 2 (-1))) hn hR hl6 hby he.2 hS1 t0) ?_
      intro v9 I9 J9 R9 ⟨e1, ⟨w9, e2⟩, e3, F9, h15, e4⟩
      rw [e1, e2, e3, e4]
      show AW _ _ _ _ _ _ _ _ [.int 0] (m_row (m_row (m_row I 95 F9) 104 D) 105 (va_up (va_up A 1 (-1)) 2 (-1))) _ _ _
      refine a_if_eq (tgt := 117) dM_weekLine_100 (by decide) (fun _ => ?_) (fun c => False.elim (c rfl))
      refine a_iconstN (a := 0) dM_weekLine_117 (by decide) ?_
      exact a_zret dM_weekLine_118 rfl (by rfl) (by
        rw [olq, show shA 7 = [false] from rfl, ms0_n0 t0]
        exact ⟨rfl, Or.inl ⟨rfl, rfl, ⟨_, rfl⟩, _, _, _, h15, rfl⟩⟩)
theorem r_wk8 {S : Nat × (Nat → Int32)} {d n : Nat} {I : mI} {J : mJ} {R : mR} (hn : 122 ≤ n) (hR : m_fin R) {len : Nat} (hl6 : len ≤ 600) (hby : byT (I 96) len) {p : Nat} (hp : p ≤ len) {x : Nat × Nat} {gh gl : Int32} {F D A : Nat → Int32} (hS : RS (I 96) len p x gh gl 1 F) {w wv : Int64} (hw5 : lg_cmp wv 1734964837 = 0 ↔ iwT (I 96) len p 5) (hw6 : lg_cmp wv 1936484720 = 0 ↔ iwT (I 96) len p 6) (hw7 : lg_cmp wv 1651864174 = 0 ↔ iwT (I 96) len p 7) (hw8 : lg_cmp wv 474214787188 = 0 ↔ iwT (I 96) len p 8) (y8 : iwT (I 96) len p 8) (n5 : ¬ iwT (I 96) len p 5) (n6 : ¬ iwT (I 96) len p 6) (n7 : ¬ iwT (I 96) len p 7) {st : TS} (hRR : RR 1 st x gh gl D) : AW S (d + 6) YM_weekLine n n (olq I J R len 8 1 p st) 0 [(0, .ref 95), (1, .long wv), (3, .int (nI (tkB (I 96) len p)))] [] (m_row (m_row (m_row I 95 F) 104 D) 105 A) (m_up J 95 14 w) R n := by
  have hb := tkB_le (T := I 96) hp
  have he := tkE_le (T := I 96) hp
  have hbe := tkE_lt (T := I 96) hp (tk_wd y8.1).1
  obtain ⟨c, hc40, hd0⟩ := hRR.2.2.2.2.1 rfl
  by_cases tb9 : D 0 = nI 40
  · have lt9 := ltF_s (F := F) (q := (tkB (I 96) len p)) hS.f5 (show 3 < 5 by decide) hS.h16 hS.h17
    have hc9 : c = 40 := by rw [hd0] at tb9; exact (nI_eq (by omega) (by decide)).mp tb9
    refine a_lload_n 1 dM_weekLine_0 rfl rfl ?_
    refine a_ldc2 (v := 1734964837) dM_weekLine_1 cn12_218 ?_
    refine a_lcmp dM_weekLine_4 ?_
    refine a_if_ne (tgt := 12) dM_weekLine_5 (by decide) (fun _ => ?_) (fun c => False.elim (n5 (hw5.mp c)))
    refine a_lload_n 1 dM_weekLine_12 rfl rfl ?_
    refine a_ldc2 (v := 1936484720) dM_weekLine_13 cn12_220 ?_
    refine a_lcmp dM_weekLine_16 ?_
    refine a_if_ne (tgt := 24) dM_weekLine_17 (by decide) (fun _ => ?_) (fun c => False.elim (n6 (hw6.mp c)))
    refine a_lload_n 1 dM_weekLine_24 rfl rfl ?_
    refine a_ldc2 (v := 1651864174) dM_weekLine_25 cn12_222 ?_
    refine a_lcmp dM_weekLine_28 ?_
    refine a_if_ne (tgt := 36) dM_weekLine_29 (by decide) (fun _ => ?_) (fun c => False.elim (n7 (hw7.mp c)))
    refine a_lload_n 1 dM_weekLine_36 rfl rfl ?_
    refine a_ldc2 (v := 474214787188) dM_weekLine_37 cn12_224 ?_
    refine a_lcmp dM_weekLine_40 ?_
    refine a_if_ne (tgt := 48) dM_weekLine_41 (by decide) (fun c => False.elim (c (hw8.mpr y8))) (fun _ => ?_)
    refine a_iconstN (a := 3) dM_weekLine_44 (by decide) ?_
    refine a_goto (tgt := 49) dM_weekLine_45 (by decide) ?_
    refine a_istore (lv' := [(4, .int (nI 3)), (0, .ref 95), (1, .long wv), (3, .int (nI (tkB (I 96) len p)))]) dM_weekLine_49 (by decide) rfl ?_
    refine a_iload 0 dM_weekLine_51 rfl ?_
    refine a_iconst (v := -1) dM_weekLine_53 (by decide) ?_
    refine a_icmp_ne (tgt := 62) dM_weekLine_54 (by decide) (fun _ => ?_) (fun c => False.elim (absurd c (by decide)))
    refine a_aload_n 1 dM_weekLine_62 rfl rfl ?_
    refine a_iconstN (a := 0) dM_weekLine_63 (by decide) ?_
    refine a_bipushN (a := 40) dM_weekLine_64 (by decide) ?_
    refine a_iload_n 3 dM_weekLine_66 rfl rfl ?_
    refine a_callV (Q' := m_res none (mRd I (ltF x F 3 (tkB (I 96) len p)) D A) (m_up J 95 14 w) R) (as := [.int (nI 0), .int (nI 40), .int (nI (tkB (I 96) len p))]) (st := []) dM_weekLine_67 ml12_189 rfl (Nat.le_of_ble_eq_true rfl) ly_95 rfl rfl (by decide) (by omega) (Nat.le_of_ble_eq_true rfl) rfl (Nat.le_refl _) (Nat.le_refl _) (c_full1 hn hR (by decide) hS.f5 hS.h16 hS.h17 (by omega) (fun z => Nat.lt_of_lt_of_le (hS.hlp z) hb.1) tb9) (m_go ?_)
    show AW _ _ _ _ _ _ _ _ [] _ _ _ _
    refine a_aload_n 1 dM_weekLine_70 rfl rfl ?_
    refine a_callV (Q' := m_res none (m_row (m_row (m_row I 95 (tkG (I 96) len (tkE (I 96) len p) (ltF x F 3 (tkB (I 96) len p)))) 104 D) 105 A) (m_up J 95 14 (tkW (I 96) len (tkE (I 96) len p))) R) (as := []) (st := []) dM_weekLine_71 ml12_154 rfl (Nat.le_of_ble_eq_true rfl) ly_95 rfl rfl (by decide) (by omega) (Nat.le_of_ble_eq_true rfl) rfl (Nat.le_refl _) (Nat.le_refl _) (c_tok (S := S) (d := d + 4) (n := n) (F := (ltF x F 3 (tkB (I 96) len p))) (D := D) (A := A) (w := w) hn hR hl6 hby he.2 ((ltF_o (by decide) (by decide)).trans hS.h9) ((ltF_o (by decide) (by decide)).trans hS.h10)) (m_go ?_)
    show AW _ _ _ _ _ _ _ _ [] _ _ _ _
    show AW _ _ _ _ _ _ _ _ [] (m_row (m_row (m_row I 95 (tkG (I 96) len (tkE (I 96) len p) (ltF x F 3 (tkB (I 96) len p)))) 104 D) 105 A) _ _ _
    refine a_aload_n 1 dM_weekLine_74 rfl rfl ?_
    refine a_geta (r := 105) dM_weekLine_75 fl12_38 rfl ly_95 (by omega) (rf_95_19 hR) ?_
    refine a_iconstN (a := 1) dM_weekLine_78 (by decide) ?_
    refine a_iconst (v := -1) dM_weekLine_79 (by decide) ?_
    refine a_iastN (a := 1) dM_weekLine_80 ly_105 (by omega) (by omega) (by decide) ?_
    rw [show m_up (m_row (m_row (m_row I 95 (tkG (I 96) len (tkE (I 96) len p) (ltF x F 3 (tkB (I 96) len p)))) 104 D) 105 A) 105 1 (-1) = (m_row (m_row (m_row I 95 (tkG (I 96) len (tkE (I 96) len p) (ltF x F 3 (tkB (I 96) len p)))) 104 D) 105 (va_up A 1 (-1))) from (by rw [m_up_r])]
    refine a_aload_n 1 dM_weekLine_81 rfl rfl ?_
    refine a_geta (r := 105) dM_weekLine_82 fl12_38 rfl ly_95 (by omega) (rf_95_19 hR) ?_
    refine a_iconstN (a := 2) dM_weekLine_85 (by decide) ?_
    refine a_iconst (v := -1) dM_weekLine_86 (by decide) ?_
    refine a_iastN (a := 2) dM_weekLine_87 ly_105 (by omega) (by omega) (by decide) ?_
    rw [show m_up (m_row (m_row (m_row I 95 (tkG (I 96) len (tkE (I 96) len p) (ltF x F 3 (tkB (I 96) len p)))) 104 D) 105 (va_up A 1 (-1))) 105 2 (-1) = (m_row (m_row (m_row I 95 (tkG (I 96) len (tkE (I 96) len p) (ltF x F 3 (tkB (I 96) len p)))) 104 D) 105 (va_up (va_up A 1 (-1)) 2 (-1))) from (by rw [m_up_r])]
    refine a_iload 0 dM_weekLine_88 rfl ?_
    refine a_iconstN (a := 3) dM_weekLine_90 (by decide) ?_
    refine a_icmp_eqN (tgt := 103) dM_weekLine_91 (by decide) (by omega) (by omega) (fun _ => ?_) (fun c => False.elim (by omega))
    have hS1 : RS (I 96) len (tkE (I 96) len p) (s1 x true (3, (tkB (I 96) len p))) gh gl 1 (tkG (I 96) len (tkE (I 96) len p) (ltF x F 3 (tkB (I 96) len p))) := (RS_tk (F := ltF x F 3 (tkB (I 96) len p)) hby he.2 ((ltF_o (by decide) (by decide)).trans hS.h10) lt9.1 lt9.2.1 lt9.2.2 (s1_lt (fun z => Nat.lt_of_lt_of_le (hS.hlp z) (Nat.le_trans hb.1 he.1)) hbe) ((ltF_o (by decide) (by decide)).trans hS.h20) ((ltF_o (by decide) (by decide)).trans hS.h21) ((ltF_o (by decide) (by decide)).trans hS.h22))
    refine a_iload 0 dM_weekLine_103 rfl ?_
    refine a_iconstN (a := 1) dM_weekLine_105 (by decide) ?_
    refine a_icmp_neN (tgt := 119) dM_weekLine_106 (by decide) (by omega) (by omega) (fun _ => ?_) (fun c => False.elim (by omega))
    refine a_aload_n 1 dM_weekLine_119 rfl rfl ?_
    refine a_geta (r := 105) dM_weekLine_120 fl12_38 rfl ly_95 (by omega) (rf_95_19 hR) ?_
    refine a_iconstN (a := 0) dM_weekLine_123 (by decide) ?_
    refine a_iload 0 dM_weekLine_124 rfl ?_
    refine a_iastN (a := 0) dM_weekLine_126 ly_105 (by omega) (by omega) (by decide) ?_
    rw [show m_up (m_row (m_row (m_row I 95 (tkG (I 96) len (tkE (I 96) len p) (ltF x F 3 (tkB (I 96) len p)))) 104 D) 105 (va_up (va_up A 1 (-1)) 2 (-1))) 105 0 (nI 3) = (m_row (m_row (m_row I 95 (tkG (I 96) len (tkE (I 96) len p) (ltF x F 3 (tkB (I 96) len p)))) 104 D) 105 (va_up (va_up (va_up A 0 (nI 3)) 1 (-1)) 2 (-1))) from (by rw [m_up_r, show va_up (va_up (va_up A 1 (-1)) 2 (-1)) 0 (nI 3) = (va_up (va_up (va_up A 0 (nI 3)) 1 (-1)) 2 (-1)) from ((va_uc (by decide)).trans (congrArg (fun g => va_up g 2 (-1)) ((va_uc (by decide)).trans (congrArg (fun g => va_up g 1 (-1)) rfl))))])]
    refine a_aload_n 1 dM_weekLine_127 rfl rfl ?_
    refine a_iconstN (a := 3) dM_weekLine_128 (by decide) ?_
    refine a_bipushN (a := 40) dM_weekLine_129 (by decide) ?_
    refine a_callV (Q' := m_res none (m_row (m_row (m_row I 95 (tkG (I 96) len (tkE (I 96) len p) (ltF x F 3 (tkB (I 96) len p)))) 104 D) 105 (va_up (va_up (va_up A 0 (nI 3)) 1 (-1)) 2 (-1))) (m_up J 95 14 (tkW (I 96) len (tkE (I 96) len p))) R) (as := [.int (nI 3), .int (nI 40)]) (st := []) dM_weekLine_131 ml12_226 rfl (Nat.le_of_ble_eq_true rfl) ly_95 rfl rfl (by decide) (by omega) (Nat.le_of_ble_eq_true rfl) rfl (Nat.le_refl _) (Nat.le_refl _) (c_keep3_0 hn hR tb9) (m_go ?_)
    show AW _ _ _ _ _ _ _ _ [] _ _ _ _
    refine a_iconstN (a := 1) dM_weekLine_134 (by decide) ?_
    exact a_zret dM_weekLine_135 rfl (by rfl) (by
        rw [olq, show shA 8 = [] from rfl, ms0_e]
        have r := rr_8 he.2 hc40 hd0 hRR (T := I 96) (b := (tkB (I 96) len p))
        rw [decide_eq_true tb9, if_neg (show ¬ c < 40 by omega)] at r
        exact ⟨rfl, Or.inr ⟨rfl, rfl, rfl, _, _, _, _, _, _, _, hS1, r, rfl⟩⟩)
  · have hc9 : c < 40 := by
      rcases Nat.lt_or_ge c 40 with q | q
      · exact q
      · exact absurd (by rw [hd0]; congr 1; omega) tb9
    refine a_lload_n 1 dM_weekLine_0 rfl rfl ?_
    refine a_ldc2 (v := 1734964837) dM_weekLine_1 cn12_218 ?_
    refine a_lcmp dM_weekLine_4 ?_
    refine a_if_ne (tgt := 12) dM_weekLine_5 (by decide) (fun _ => ?_) (fun c => False.elim (n5 (hw5.mp c)))
    refine a_lload_n 1 dM_weekLine_12 rfl rfl ?_
    refine a_ldc2 (v := 1936484720) dM_weekLine_13 cn12_220 ?_
    refine a_lcmp dM_weekLine_16 ?_
    refine a_if_ne (tgt := 24) dM_weekLine_17 (by decide) (fun _ => ?_) (fun c => False.elim (n6 (hw6.mp c)))
    refine a_lload_n 1 dM_weekLine_24 rfl rfl ?_
    refine a_ldc2 (v := 1651864174) dM_weekLine_25 cn12_222 ?_
    refine a_lcmp dM_weekLine_28 ?_
    refine a_if_ne (tgt := 36) dM_weekLine_29 (by decide) (fun _ => ?_) (fun c => False.elim (n7 (hw7.mp c)))
    refine a_lload_n 1 dM_weekLine_36 rfl rfl ?_
    refine a_ldc2 (v := 474214787188) dM_weekLine_37 cn12_224 ?_
    refine a_lcmp dM_weekLine_40 ?_
    refine a_if_ne (tgt := 48) dM_weekLine_41 (by decide) (fun c => False.elim (c (hw8.mpr y8))) (fun _ => ?_)
    refine a_iconstN (a := 3) dM_weekLine_44 (by decide) ?_
    refine a_goto (tgt := 49) dM_weekLine_45 (by decide) ?_
    refine a_istore (lv' := [(4, .int (nI 3)), (0, .ref 95), (1, .long wv), (3, .int (nI (tkB (I 96) len p)))]) dM_weekLine_49 (by decide) rfl ?_
    refine a_iload 0 dM_weekLine_51 rfl ?_
    refine a_iconst (v := -1) dM_weekLine_53 (by decide) ?_
    refine a_icmp_ne (tgt := 62) dM_weekLine_54 (by decide) (fun _ => ?_) (fun c => False.elim (absurd c (by decide)))
    refine a_aload_n 1 dM_weekLine_62 rfl rfl ?_
    refine a_iconstN (a := 0) dM_weekLine_63 (by decide) ?_
    refine a_bipushN (a := 40) dM_weekLine_64 (by decide) ?_
    refine a_iload_n 3 dM_weekLine_66 rfl rfl ?_
    refine a_callV (Q' := m_res none (m_row (m_row (m_row I 95 F) 104 D) 105 A) (m_up J 95 14 w) R) (as := [.int (nI 0), .int (nI 40), .int (nI (tkB (I 96) len p))]) (st := []) dM_weekLine_67 ml12_189 rfl (Nat.le_of_ble_eq_true rfl) ly_95 rfl rfl (by decide) (by omega) (Nat.le_of_ble_eq_true rfl) rfl (Nat.le_refl _) (Nat.le_refl _) (c_full0 hn hR (by decide) tb9) (m_go ?_)
    show AW _ _ _ _ _ _ _ _ [] _ _ _ _
    refine a_aload_n 1 dM_weekLine_70 rfl rfl ?_
    refine a_callV (Q' := m_res none (m_row (m_row (m_row I 95 (tkG (I 96) len (tkE (I 96) len p) F)) 104 D) 105 A) (m_up J 95 14 (tkW (I 96) len (tkE (I 96) len p))) R) (as := []) (st := []) dM_weekLine_71 ml12_154 rfl (Nat.le_of_ble_eq_true rfl) ly_95 rfl rfl (by decide) (by omega) (Nat.le_of_ble_eq_true rfl) rfl (Nat.le_refl _) (Nat.le_refl _) (c_tok (S := S) (d := d + 4) (n := n) (F := F) (D := D) (A := A) (w := w) hn hR hl6 hby he.2 hS.h9 hS.h10) (m_go ?_)
    show AW _ _ _ _ _ _ _ _ [] _ _ _ _
    show AW _ _ _ _ _ _ _ _ [] (m_row (m_row (m_row I 95 (tkG (I 96) len (tkE (I 96) len p) F)) 104 D) 105 A) _ _ _
    refine a_aload_n 1 dM_weekLine_74 rfl rfl ?_
    refine a_geta (r := 105) dM_weekLine_75 fl12_38 rfl ly_95 (by omega) (rf_95_19 hR) ?_
    refine a_iconstN (a := 1) dM_weekLine_78 (by decide) ?_
    refine a_iconst (v := -1) dM_weekLine_79 (by decide) ?_
    refine a_iastN (a := 1) dM_weekLine_80 ly_105 (by omega) (by omega) (by decide) ?_
    rw [show m_up (m_row (m_row (m_row I 95 (tkG (I 96) len (tkE (I 96) len p) F)) 104 D) 105 A) 105 1 (-1) = (m_row (m_row (m_row I 95 (tkG (I 96) len (tkE (I 96) len p) F)) 104 D) 105 (va_up A 1 (-1))) from (by rw [m_up_r])]
    refine a_aload_n 1 dM_weekLine_81 rfl rfl ?_
    refine a_geta (r := 105) dM_weekLine_82 fl12_38 rfl ly_95 (by omega) (rf_95_19 hR) ?_
    refine a_iconstN (a := 2) dM_weekLine_85 (by decide) ?_
    refine a_iconst (v := -1) dM_weekLine_86 (by decide) ?_
    refine a_iastN (a := 2) dM_weekLine_87 ly_105 (by omega) (by omega) (by decide) ?_
    rw [show m_up (m_row (m_row (m_row I 95 (tkG (I 96) len (tkE (I 96) len p) F)) 104 D) 105 (va_up A 1 (-1))) 105 2 (-1) = (m_row (m_row (m_row I 95 (tkG (I 96) len (tkE (I 96) len p) F)) 104 D) 105 (va_up (va_up A 1 (-1)) 2 (-1))) from (by rw [m_up_r])]
    refine a_iload 0 dM_weekLine_88 rfl ?_
    refine a_iconstN (a := 3) dM_weekLine_90 (by decide) ?_
    refine a_icmp_eqN (tgt := 103) dM_weekLine_91 (by decide) (by omega) (by omega) (fun _ => ?_) (fun c => False.elim (by omega))
    have hS1 : RS (I 96) len (tkE (I 96) len p) x gh gl 1 (tkG (I 96) len (tkE (I 96) len p) F) := (RS_tk hby he.2 hS.h10 hS.f5 hS.h16 hS.h17 (fun z => Nat.lt_of_lt_of_le (hS.hlp z) (Nat.le_trans hb.1 he.1)) hS.h20 hS.h21 hS.h22)
    refine a_iload 0 dM_weekLine_103 rfl ?_
    refine a_iconstN (a := 1) dM_weekLine_105 (by decide) ?_
    refine a_icmp_neN (tgt := 119) dM_weekLine_106 (by decide) (by omega) (by omega) (fun _ => ?_) (fun c => False.elim (by omega))
    refine a_aload_n 1 dM_weekLine_119 rfl rfl ?_
    refine a_geta (r := 105) dM_weekLine_120 fl12_38 rfl ly_95 (by omega) (rf_95_19 hR) ?_
    refine a_iconstN (a := 0) dM_weekLine_123 (by decide) ?_
    refine a_iload 0 dM_weekLine_124 rfl ?_
    refine a_iastN (a := 0) dM_weekLine_126 ly_105 (by omega) (by omega) (by decide) ?_
    rw [show m_up (m_row (m_row (m_row I 95 (tkG (I 96) len (tkE (I 96) len p) F)) 104 D) 105 (va_up (va_up A 1 (-1)) 2 (-1))) 105 0 (nI 3) = (m_row (m_row (m_row I 95 (tkG (I 96) len (tkE (I 96) len p) F)) 104 D) 105 (va_up (va_up (va_up A 0 (nI 3)) 1 (-1)) 2 (-1))) from (by rw [m_up_r, show va_up (va_up (va_up A 1 (-1)) 2 (-1)) 0 (nI 3) = (va_up (va_up (va_up A 0 (nI 3)) 1 (-1)) 2 (-1)) from ((va_uc (by decide)).trans (congrArg (fun g => va_up g 2 (-1)) ((va_uc (by decide)).trans (congrArg (fun g => va_up g 1 (-1)) rfl))))])]
    refine a_aload_n 1 dM_weekLine_127 rfl rfl ?_
    refine a_iconstN (a := 3) dM_weekLine_128 (by decide) ?_
    refine a_bipushN (a := 40) dM_weekLine_129 (by decide) ?_
    refine a_callV (Q' := m_res none (mRd I (tkG (I 96) len (tkE (I 96) len p) F) (wkU D c (nI 3) (-1) (-1)) (va_up (va_up (va_up A 0 (nI 3)) 1 (-1)) 2 (-1))) (m_up J 95 14 (tkW (I 96) len (tkE (I 96) len p))) R) (as := [.int (nI 3), .int (nI 40)]) (st := []) dM_weekLine_131 ml12_226 rfl (Nat.le_of_ble_eq_true rfl) ly_95 rfl rfl (by decide) (by omega) (Nat.le_of_ble_eq_true rfl) rfl (Nat.le_refl _) (Nat.le_refl _) (by have q := c_keep3_1 (S := S) (d := d + 5) (n := n) (I := I) (J := (m_up J 95 14 (tkW (I 96) len (tkE (I 96) len p)))) (R := R) (F := (tkG (I 96) len (tkE (I 96) len p) F)) (D := D) (A := (va_up (va_up (va_up A 0 (nI 3)) 1 (-1)) 2 (-1))) hn hR hd0 hc9; rw [show (va_up (va_up (va_up A 0 (nI 3)) 1 (-1)) 2 (-1)) 0 = nI 3 from rfl, show (va_up (va_up (va_up A 0 (nI 3)) 1 (-1)) 2 (-1)) 1 = -1 from rfl, show (va_up (va_up (va_up A 0 (nI 3)) 1 (-1)) 2 (-1)) 2 = -1 from rfl] at q; exact q) (m_go ?_)
    show AW _ _ _ _ _ _ _ _ [] _ _ _ _
    refine a_iconstN (a := 1) dM_weekLine_134 (by decide) ?_
    exact a_zret dM_weekLine_135 rfl (by rfl) (by
        rw [olq, show shA 8 = [] from rfl, ms0_e]
        have r := rr_8 he.2 hc40 hd0 hRR (T := I 96) (b := (tkB (I 96) len p))
        rw [decide_eq_false tb9, s1_f, if_pos hc9] at r
        exact ⟨rfl, Or.inr ⟨rfl, rfl, rfl, _, _, _, _, _, _, _, hS1, r, rfl⟩⟩)
theorem r_wkN {S : Nat × (Nat → Int32)} {d n : Nat} {I : mI} {J : mJ} {R : mR} (hn : 122 ≤ n) (hR : m_fin R) {len : Nat} (hl6 : len ≤ 600) (hby : byT (I 96) len) {p : Nat} (hp : p ≤ len) {x : Nat × Nat} {gh gl : Int32} {F D A : Nat → Int32} (hS : RS (I 96) len p x gh gl 1 F) {w wv : Int64} (hw5 : lg_cmp wv 1734964837 = 0 ↔ iwT (I 96) len p 5) (hw6 : lg_cmp wv 1936484720 = 0 ↔ iwT (I 96) len p 6) (hw7 : lg_cmp wv 1651864174 = 0 ↔ iwT (I 96) len p 7) (hw8 : lg_cmp wv 474214787188 = 0 ↔ iwT (I 96) len p 8) (n5 : ¬ iwT (I 96) len p 5) (n6 : ¬ iwT (I 96) len p 6) (n7 : ¬ iwT (I 96) len p 7) (n8 : ¬ iwT (I 96) len p 8) : AW S (d + 6) YM_weekLine n n (tq0 I J R (tkB (I 96) len p) D A) 0 [(0, .ref 95), (1, .long wv), (3, .int (nI (tkB (I 96) len p)))] [] (m_row (m_row (m_row I 95 F) 104 D) 105 A) (m_up J 95 14 w) R n := by
  refine a_lload_n 1 dM_weekLine_0 rfl rfl ?_
  refine a_ldc2 (v := 1734964837) dM_weekLine_1 cn12_218 ?_
  refine a_lcmp dM_weekLine_4 ?_
  refine a_if_ne (tgt := 12) dM_weekLine_5 (by decide) (fun _ => ?_) (fun c => False.elim (n5 (hw5.mp c)))
  refine a_lload_n 1 dM_weekLine_12 rfl rfl ?_
  refine a_ldc2 (v := 1936484720) dM_weekLine_13 cn12_220 ?_
  refine a_lcmp dM_weekLine_16 ?_
  refine a_if_ne (tgt := 24) dM_weekLine_17 (by decide) (fun _ => ?_) (fun c => False.elim (n6 (hw6.mp c)))
  refine a_lload_n 1 dM_weekLine_24 rfl rfl ?_
  refine a_ldc2 (v := 1651864174) dM_weekLine_25 cn12_222 ?_
  refine a_lcmp dM_weekLine_28 ?_
  refine a_if_ne (tgt := 36) dM_weekLine_29 (by decide) (fun _ => ?_) (fun c => False.elim (n7 (hw7.mp c)))
  refine a_lload_n 1 dM_weekLine_36 rfl rfl ?_
  refine a_ldc2 (v := 474214787188) dM_weekLine_37 cn12_224 ?_
  refine a_lcmp dM_weekLine_40 ?_
  refine a_if_ne (tgt := 48) dM_weekLine_41 (by decide) (fun _ => ?_) (fun c => False.elim (n8 (hw8.mp c)))
  refine a_iconst (v := -1) dM_weekLine_48 (by decide) ?_
  refine a_istore (lv' := [(4, .int (-1)), (0, .ref 95), (1, .long wv), (3, .int (nI (tkB (I 96) len p)))]) dM_weekLine_49 (by decide) rfl ?_
  refine a_iload 0 dM_weekLine_51 rfl ?_
  refine a_iconst (v := -1) dM_weekLine_53 (by decide) ?_
  refine a_icmp_ne (tgt := 62) dM_weekLine_54 (by decide) (fun c => False.elim (c rfl)) (fun _ => ?_)
  refine a_aload_n 1 dM_weekLine_57 rfl rfl ?_
  refine a_callV (Q' := m_res (some (.int 0)) (mRd I (va_up F 15 (F 11)) D A) (m_up J 95 14 w) R) (as := []) (st := []) dM_weekLine_58 ml12_142 rfl (Nat.le_of_ble_eq_true rfl) ly_95 rfl rfl (by decide) (by omega) (Nat.le_of_ble_eq_true rfl) rfl (Nat.le_refl _) (Nat.le_refl _) (c_fails hn hR) (m_go ?_)
  show AW _ _ _ _ _ _ _ _ [.int 0] _ _ _ _
  exact a_zret dM_weekLine_61 rfl (by rfl) ⟨rfl, ⟨_, rfl⟩, rfl, _, hS.h11, rfl⟩
theorem r_lg9 {S : Nat × (Nat → Int32)} {d n : Nat} {I : mI} {J : mJ} {R : mR} (hn : 122 ≤ n) (hR : m_fin R) {len : Nat} (hl6 : len ≤ 600) (hby : byT (I 96) len) {p : Nat} (hp : p ≤ len) {x : Nat × Nat} {gh gl : Int32} {F D A : Nat → Int32} (hS : RS (I 96) len p x gh gl 1 F) {w wv : Int64} (hw1 : lg_cmp wv 1836019556 = 0 ↔ iwT (I 96) len p 1) (y1 : iwT (I 96) len p 1) {st : TS} (hRR : RR 2 st x gh gl D) : AW S (d + 6) YM_logLine n n (olq I J R len 9 2 p st) 0 [(0, .ref 95), (1, .long wv), (3, .int (nI (tkB (I 96) len p)))] [] (m_row (m_row (m_row I 95 F) 104 D) 105 A) (m_up J 95 14 w) R n := by
  have hb := tkB_le (T := I 96) hp
  have he := tkE_le (T := I 96) hp
  have hbe := tkE_lt (T := I 96) hp (tk_wd y1.1).1
  obtain ⟨c, hc40, hd0⟩ := hRR.2.2.2.2.2 rfl
  by_cases tb9 : D 0 = nI 8
  · have lt9 := ltF_s (F := F) (q := (tkB (I 96) len p)) hS.f5 (show 3 < 5 by decide) hS.h16 hS.h17
    have hc9 : c = 8 := by rw [hd0] at tb9; exact (nI_eq (by omega) (by decide)).mp tb9
    refine a_lload_n 1 dM_logLine_0 rfl rfl ?_
    refine a_ldc2 (v := 1836019556) dM_logLine_1 cn12_198 ?_
    refine a_lcmp dM_logLine_4 ?_
    refine a_if_eq (tgt := 13) dM_logLine_5 (by decide) (fun _ => ?_) (fun c => False.elim (c (hw1.mpr y1)))
    refine a_aload_n 0 dM_logLine_13 rfl rfl ?_
    refine a_iconstN (a := 0) dM_logLine_14 (by decide) ?_
    refine a_bipushN (a := 8) dM_logLine_15 (by decide) ?_
    refine a_iload_n 2 dM_logLine_17 rfl rfl ?_
    refine a_callV (Q' := m_res none (mRd I (ltF x F 3 (tkB (I 96) len p)) D A) (m_up J 95 14 w) R) (as := [.int (nI 0), .int (nI 8), .int (nI (tkB (I 96) len p))]) (st := []) dM_logLine_18 ml12_189 rfl (Nat.le_of_ble_eq_true rfl) ly_95 rfl rfl (by decide) (by omega) (Nat.le_of_ble_eq_true rfl) rfl (Nat.le_refl _) (Nat.le_refl _) (c_full1 hn hR (by decide) hS.f5 hS.h16 hS.h17 (by omega) (fun z => Nat.lt_of_lt_of_le (hS.hlp z) hb.1) tb9) (m_go ?_)
    show AW _ _ _ _ _ _ _ _ [] _ _ _ _
    refine a_aload_n 0 dM_logLine_21 rfl rfl ?_
    refine a_callV (Q' := m_res none (m_row (m_row (m_row I 95 (tkG (I 96) len (tkE (I 96) len p) (ltF x F 3 (tkB (I 96) len p)))) 104 D) 105 A) (m_up J 95 14 (tkW (I 96) len (tkE (I 96) len p))) R) (as := []) (st := []) dM_logLine_22 ml12_154 rfl (Nat.le_of_ble_eq_true rfl) ly_95 rfl rfl (by decide) (by omega) (Nat.le_of_ble_eq_true rfl) rfl (Nat.le_refl _) (Nat.le_refl _) (c_tok (S := S) (d := d + 4) (n := n) (F := (ltF x F 3 (tkB (I 96) len p))) (D := D) (A := A) (w := w) hn hR hl6 hby he.2 ((ltF_o (by decide) (by decide)).trans hS.h9) ((ltF_o (by decide) (by decide)).trans hS.h10)) (m_go ?_)
    show AW _ _ _ _ _ _ _ _ [] _ _ _ _
    refine a_aload_n 0 dM_logLine_25 rfl rfl ?_
    refine a_iconstN (a := 0) dM_logLine_26 (by decide) ?_
    have hS1 : RS (I 96) len (tkE (I 96) len p) (s1 x true (3, (tkB (I 96) len p))) gh gl 1 (tkG (I 96) len (tkE (I 96) len p) (ltF x F 3 (tkB (I 96) len p))) := (RS_tk (F := ltF x F 3 (tkB (I 96) len p)) hby he.2 ((ltF_o (by decide) (by decide)).trans hS.h10) lt9.1 lt9.2.1 lt9.2.2 (s1_lt (fun z => Nat.lt_of_lt_of_le (hS.hlp z) (Nat.le_trans hb.1 he.1)) hbe) ((ltF_o (by decide) (by decide)).trans hS.h20) ((ltF_o (by decide) (by decide)).trans hS.h21) ((ltF_o (by decide) (by decide)).trans hS.h22))
    by_cases t0 : tkS (I 96) len (tkE (I 96) len p) = 2
    · have q1 : (tkE (I 96) len (tkE (I 96) len p)) ≤ len := (tkE_le (T := I 96) he.2).2
      refine a_callV (Q' := (tq1 I J R len (tkE (I 96) len (tkE (I 96) len p)) (s1 (s1 x true (3, (tkB (I 96) len p))) (bdB (vN (I 96) len (tkE (I 96) len p)) 0 5) (2, (tkB (I 96) len (tkE (I 96) len p)))) (mxI gh (vN (I 96) len (tkE (I 96) len p))) gl (if (bdB (vN (I 96) len (tkE (I 96) len p)) 0 5) = true then 0 else 1) D (va_up A 0 (nI (vN (I 96) len (tkE (I 96) len p)))))) (as := [.int (nI 0)]) (st := []) dM_logLine_27 ml12_182 rfl (Nat.le_of_ble_eq_true rfl) ly_95 rfl rfl (by decide) (by omega) (Nat.le_of_ble_eq_true rfl) rfl (Nat.le_refl _) (Nat.le_refl _) (r_takeHouse1 (D := D) (A := A) hn hR hl6 hby he.2 hS1 (by decide) t0) ?_
      intro v9 I9 J9 R9 ⟨e1, e2, e3, F2, hS2, e4⟩
      rw [e1, e2, e3, e4]
      show AW _ _ _ _ _ _ _ _ [.int 1] (m_row (m_row (m_row I 95 F2) 104 D) 105 (va_up A 0 (nI (vN (I 96) len (tkE (I 96) len p))))) _ _ _
      refine a_if_eq (tgt := 44) dM_logLine_30 (by decide) (fun c => False.elim (absurd c (by decide))) (fun _ => ?_)
      refine a_aload_n 0 dM_logLine_33 rfl rfl ?_
      refine a_iconstN (a := 1) dM_logLine_34 (by decide) ?_
      refine a_iconstN (a := 0) dM_logLine_35 (by decide) ?_
      refine a_bipushN (a := 99) dM_logLine_36 (by decide) ?_
      by_cases t1 : tkS (I 96) len (tkE (I 96) len (tkE (I 96) len p)) = 2
      ·
        refine a_callV (Q' := (tq1 I J R len (tkE (I 96) len (tkE (I 96) len (tkE (I 96) len p))) (s1 (s1 (s1 x true (3, (tkB (I 96) len p))) (bdB (vN (I 96) len (tkE (I 96) len p)) 0 5) (2, (tkB (I 96) len (tkE (I 96) len p)))) (bdB (vN (I 96) len (tkE (I 96) len (tkE (I 96) len p))) 0 99) (2, (tkB (I 96) len (tkE (I 96) len (tkE (I 96) len p))))) (mxI gh (vN (I 96) len (tkE (I 96) len p))) gl (if (bdB (vN (I 96) len (tkE (I 96) len (tkE (I 96) len p))) 0 99) = true then 0 else (if (bdB (vN (I 96) len (tkE (I 96) len p)) 0 5) = true then 0 else 1)) D (va_up (va_up A 0 (nI (vN (I 96) len (tkE (I 96) len p)))) 1 (nI (vN (I 96) len (tkE (I 96) len (tkE (I 96) len p))))))) (as := [.int (nI 1), .int (nI 0), .int (nI 99)]) (st := []) dM_logLine_38 ml12_161 rfl (Nat.le_of_ble_eq_true rfl) ly_95 rfl rfl (by decide) (by omega) (Nat.le_of_ble_eq_true rfl) rfl (Nat.le_refl _) (Nat.le_refl _) (r_take1 (D := D) (A := (va_up A 0 (nI (vN (I 96) len (tkE (I 96) len p))))) hn hR hl6 hby q1 hS2 (by decide) (by decide) (by decide) t1) ?_
        intro v9 I9 J9 R9 ⟨e1, e2, e3, F3, hS3, e4⟩
        rw [e1, e2, e3, e4]
        show AW _ _ _ _ _ _ _ _ [.int 1] (m_row (m_row (m_row I 95 F3) 104 D) 105 (va_up (va_up A 0 (nI (vN (I 96) len (tkE (I 96) len p)))) 1 (nI (vN (I 96) len (tkE (I 96) len (tkE (I 96) len p)))))) _ _ _
        refine a_if_ne (tgt := 46) dM_logLine_41 (by decide) (fun _ => ?_) (fun c => False.elim (absurd c (by decide)))
        refine a_aload_n 0 dM_logLine_46 rfl rfl ?_
        refine a_iconstN (a := 2) dM_logLine_47 (by decide) ?_
        refine a_bipushN (a := 8) dM_logLine_48 (by decide) ?_
        refine a_callV (Q' := m_res none (m_row (m_row (m_row I 95 F3) 104 D) 105 (va_up (va_up A 0 (nI (vN (I 96) len (tkE (I 96) len p)))) 1 (nI (vN (I 96) len (tkE (I 96) len (tkE (I 96) len p)))))) (m_up J 95 14 (tkW (I 96) len (tkE (I 96) len (tkE (I 96) len (tkE (I 96) len p))))) R) (as := [.int (nI 2), .int (nI 8)]) (st := []) dM_logLine_50 ml12_226 rfl (Nat.le_of_ble_eq_true rfl) ly_95 rfl rfl (by decide) (by omega) (Nat.le_of_ble_eq_true rfl) rfl (Nat.le_refl _) (Nat.le_refl _) (c_keep2_0 hn hR tb9) (m_go ?_)
        show AW _ _ _ _ _ _ _ _ [] _ _ _ _
        refine a_iconstN (a := 1) dM_logLine_53 (by decide) ?_
        exact a_zret dM_logLine_54 rfl (by rfl) (by
        rw [olq, show shA 9 = [false, false] from rfl, ms0_n t0, ms0_n t1, ms0_e]
        have r := rr_9 he.2 t0 t1 hc40 hd0 hRR (T := I 96) (b := (tkB (I 96) len p))
        rw [decide_eq_true tb9, if_neg (show ¬ c < 8 by omega)] at r
        exact ⟨rfl, Or.inr ⟨rfl, rfl, rfl, _, _, _, _, _, _, _, hS3, r, rfl⟩⟩)
      ·
        refine a_callV (Q' := (tq0 I J R (tkB (I 96) len (tkE (I 96) len (tkE (I 96) len p))) D (va_up A 0 (nI (vN (I 96) len (tkE (I 96) len p)))))) (as := [.int (nI 1), .int (nI 0), .int (nI 99)]) (st := []) dM_logLine_38 ml12_161 rfl (Nat.le_of_ble_eq_true rfl) ly_95 rfl rfl (by decide) (by omega) (Nat.le_of_ble_eq_true rfl) rfl (Nat.le_refl _) (Nat.le_refl _) (r_take0 (D := D) (A := (va_up A 0 (nI (vN (I 96) len (tkE (I 96) len p))))) hn hR hl6 hby q1 hS2 t1) ?_
        intro v9 I9 J9 R9 ⟨e1, ⟨w9, e2⟩, e3, F9, h15, e4⟩
        rw [e1, e2, e3, e4]
        show AW _ _ _ _ _ _ _ _ [.int 0] (m_row (m_row (m_row I 95 F9) 104 D) 105 (va_up A 0 (nI (vN (I 96) len (tkE (I 96) len p))))) _ _ _
        refine a_if_ne (tgt := 46) dM_logLine_41 (by decide) (fun c => False.elim (c rfl)) (fun _ => ?_)
        refine a_iconstN (a := 0) dM_logLine_44 (by decide) ?_
        exact a_zret dM_logLine_45 rfl (by rfl) (by
        rw [olq, show shA 9 = [false, false] from rfl, ms0_n t0, ms0_n0 t1]
        exact ⟨rfl, Or.inl ⟨rfl, rfl, ⟨_, rfl⟩, _, _, _, h15, rfl⟩⟩)
    ·
      refine a_callV (Q' := (tq0 I J R (tkB (I 96) len (tkE (I 96) len p)) D A)) (as := [.int (nI 0)]) (st := []) dM_logLine_27 ml12_182 rfl (Nat.le_of_ble_eq_true rfl) ly_95 rfl rfl (by decide) (by omega) (Nat.le_of_ble_eq_true rfl) rfl (Nat.le_refl _) (Nat.le_refl _) (r_takeHouse0 (D := D) (A := A) hn hR hl6 hby he.2 hS1 t0) ?_
      intro v9 I9 J9 R9 ⟨e1, ⟨w9, e2⟩, e3, F9, h15, e4⟩
      rw [e1, e2, e3, e4]
      show AW _ _ _ _ _ _ _ _ [.int 0] (m_row (m_row (m_row I 95 F9) 104 D) 105 A) _ _ _
      refine a_if_eq (tgt := 44) dM_logLine_30 (by decide) (fun _ => ?_) (fun c => False.elim (c rfl))
      refine a_iconstN (a := 0) dM_logLine_44 (by decide) ?_
      exact a_zret dM_logLine_45 rfl (by rfl) (by
        rw [olq, show shA 9 = [false, false] from rfl, ms0_n0 t0]
        exact ⟨rfl, Or.inl ⟨rfl, rfl, ⟨_, rfl⟩, _, _, _, h15, rfl⟩⟩)
  · have hc9 : c < 8 := by
      rcases Nat.lt_or_ge c 8 with q | q
      · exact q
      · exact absurd (by rw [hd0]; congr 1; omega) tb9
    refine a_lload_n 1 dM_logLine_0 rfl rfl ?_
    refine a_ldc2 (v := 1836019556) dM_logLine_1 cn12_198 ?_
    refine a_lcmp dM_logLine_4 ?_
    refine a_if_eq (tgt := 13) dM_logLine_5 (by decide) (fun _ => ?_) (fun c => False.elim (c (hw1.mpr y1)))
    refine a_aload_n 0 dM_logLine_13 rfl rfl ?_
    refine a_iconstN (a := 0) dM_logLine_14 (by decide) ?_
    refine a_bipushN (a := 8) dM_logLine_15 (by decide) ?_
    refine a_iload_n 2 dM_logLine_17 rfl rfl ?_
    refine a_callV (Q' := m_res none (m_row (m_row (m_row I 95 F) 104 D) 105 A) (m_up J 95 14 w) R) (as := [.int (nI 0), .int (nI 8), .int (nI (tkB (I 96) len p))]) (st := []) dM_logLine_18 ml12_189 rfl (Nat.le_of_ble_eq_true rfl) ly_95 rfl rfl (by decide) (by omega) (Nat.le_of_ble_eq_true rfl) rfl (Nat.le_refl _) (Nat.le_refl _) (c_full0 hn hR (by decide) tb9) (m_go ?_)
    show AW _ _ _ _ _ _ _ _ [] _ _ _ _
    refine a_aload_n 0 dM_logLine_21 rfl rfl ?_
    refine a_callV (Q' := m_res none (m_row (m_row (m_row I 95 (tkG (I 96) len (tkE (I 96) len p) F)) 104 D) 105 A) (m_up J 95 14 (tkW (I 96) len (tkE (I 96) len p))) R) (as := []) (st := []) dM_logLine_22 ml12_154 rfl (Nat.le_of_ble_eq_true rfl) ly_95 rfl rfl (by decide) (by omega) (Nat.le_of_ble_eq_true rfl) rfl (Nat.le_refl _) (Nat.le_refl _) (c_tok (S := S) (d := d + 4) (n := n) (F := F) (D := D) (A := A) (w := w) hn hR hl6 hby he.2 hS.h9 hS.h10) (m_go ?_)
    show AW _ _ _ _ _ _ _ _ [] _ _ _ _
    refine a_aload_n 0 dM_logLine_25 rfl rfl ?_
    refine a_iconstN (a := 0) dM_logLine_26 (by decide) ?_
    have hS1 : RS (I 96) len (tkE (I 96) len p) x gh gl 1 (tkG (I 96) len (tkE (I 96) len p) F) := (RS_tk hby he.2 hS.h10 hS.f5 hS.h16 hS.h17 (fun z => Nat.lt_of_lt_of_le (hS.hlp z) (Nat.le_trans hb.1 he.1)) hS.h20 hS.h21 hS.h22)
    by_cases t0 : tkS (I 96) len (tkE (I 96) len p) = 2
    · have q1 : (tkE (I 96) len (tkE (I 96) len p)) ≤ len := (tkE_le (T := I 96) he.2).2
      refine a_callV (Q' := (tq1 I J R len (tkE (I 96) len (tkE (I 96) len p)) (s1 x (bdB (vN (I 96) len (tkE (I 96) len p)) 0 5) (2, (tkB (I 96) len (tkE (I 96) len p)))) (mxI gh (vN (I 96) len (tkE (I 96) len p))) gl (if (bdB (vN (I 96) len (tkE (I 96) len p)) 0 5) = true then 0 else 1) D (va_up A 0 (nI (vN (I 96) len (tkE (I 96) len p)))))) (as := [.int (nI 0)]) (st := []) dM_logLine_27 ml12_182 rfl (Nat.le_of_ble_eq_true rfl) ly_95 rfl rfl (by decide) (by omega) (Nat.le_of_ble_eq_true rfl) rfl (Nat.le_refl _) (Nat.le_refl _) (r_takeHouse1 (D := D) (A := A) hn hR hl6 hby he.2 hS1 (by decide) t0) ?_
      intro v9 I9 J9 R9 ⟨e1, e2, e3, F2, hS2, e4⟩
      rw [e1, e2, e3, e4]
      show AW _ _ _ _ _ _ _ _ [.int 1] (m_row (m_row (m_row I 95 F2) 104 D) 105 (va_up A 0 (nI (vN (I 96) len (tkE (I 96) len p))))) _ _ _
      refine a_if_eq (tgt := 44) dM_logLine_30 (by decide) (fun c => False.elim (absurd c (by decide))) (fun _ => ?_)
      refine a_aload_n 0 dM_logLine_33 rfl rfl ?_
      refine a_iconstN (a := 1) dM_logLine_34 (by decide) ?_
      refine a_iconstN (a := 0) dM_logLine_35 (by decide) ?_
      refine a_bipushN (a := 99) dM_logLine_36 (by decide) ?_
      by_cases t1 : tkS (I 96) len (tkE (I 96) len (tkE (I 96) len p)) = 2
      ·
        refine a_callV (Q' := (tq1 I J R len (tkE (I 96) len (tkE (I 96) len (tkE (I 96) len p))) (s1 (s1 x (bdB (vN (I 96) len (tkE (I 96) len p)) 0 5) (2, (tkB (I 96) len (tkE (I 96) len p)))) (bdB (vN (I 96) len (tkE (I 96) len (tkE (I 96) len p))) 0 99) (2, (tkB (I 96) len (tkE (I 96) len (tkE (I 96) len p))))) (mxI gh (vN (I 96) len (tkE (I 96) len p))) gl (if (bdB (vN (I 96) len (tkE (I 96) len (tkE (I 96) len p))) 0 99) = true then 0 else (if (bdB (vN (I 96) len (tkE (I 96) len p)) 0 5) = true then 0 else 1)) D (va_up (va_up A 0 (nI (vN (I 96) len (tkE (I 96) len p)))) 1 (nI (vN (I 96) len (tkE (I 96) len (tkE (I 96) len p))))))) (as := [.int (nI 1), .int (nI 0), .int (nI 99)]) (st := []) dM_logLine_38 ml12_161 rfl (Nat.le_of_ble_eq_true rfl) ly_95 rfl rfl (by decide) (by omega) (Nat.le_of_ble_eq_true rfl) rfl (Nat.le_refl _) (Nat.le_refl _) (r_take1 (D := D) (A := (va_up A 0 (nI (vN (I 96) len (tkE (I 96) len p))))) hn hR hl6 hby q1 hS2 (by decide) (by decide) (by decide) t1) ?_
        intro v9 I9 J9 R9 ⟨e1, e2, e3, F3, hS3, e4⟩
        rw [e1, e2, e3, e4]
        show AW _ _ _ _ _ _ _ _ [.int 1] (m_row (m_row (m_row I 95 F3) 104 D) 105 (va_up (va_up A 0 (nI (vN (I 96) len (tkE (I 96) len p)))) 1 (nI (vN (I 96) len (tkE (I 96) len (tkE (I 96) len p)))))) _ _ _
        refine a_if_ne (tgt := 46) dM_logLine_41 (by decide) (fun _ => ?_) (fun c => False.elim (absurd c (by decide)))
        refine a_aload_n 0 dM_logLine_46 rfl rfl ?_
        refine a_iconstN (a := 2) dM_logLine_47 (by decide) ?_
        refine a_bipushN (a := 8) dM_logLine_48 (by decide) ?_
        refine a_callV (Q' := m_res none (mRd I F3 (lgU D c (nI (vN (I 96) len (tkE (I 96) len p))) (nI (vN (I 96) len (tkE (I 96) len (tkE (I 96) len p))))) (va_up (va_up A 0 (nI (vN (I 96) len (tkE (I 96) len p)))) 1 (nI (vN (I 96) len (tkE (I 96) len (tkE (I 96) len p)))))) (m_up J 95 14 (tkW (I 96) len (tkE (I 96) len (tkE (I 96) len (tkE (I 96) len p))))) R) (as := [.int (nI 2), .int (nI 8)]) (st := []) dM_logLine_50 ml12_226 rfl (Nat.le_of_ble_eq_true rfl) ly_95 rfl rfl (by decide) (by omega) (Nat.le_of_ble_eq_true rfl) rfl (Nat.le_refl _) (Nat.le_refl _) (by have q := c_keep2_1 (S := S) (d := d + 5) (n := n) (I := I) (J := (m_up J 95 14 (tkW (I 96) len (tkE (I 96) len (tkE (I 96) len (tkE (I 96) len p)))))) (R := R) (F := F3) (D := D) (A := (va_up (va_up A 0 (nI (vN (I 96) len (tkE (I 96) len p)))) 1 (nI (vN (I 96) len (tkE (I 96) len (tkE (I 96) len p)))))) hn hR hd0 hc9; rw [show (va_up (va_up A 0 (nI (vN (I 96) len (tkE (I 96) len p)))) 1 (nI (vN (I 96) len (tkE (I 96) len (tkE (I 96) len p))))) 0 = nI (vN (I 96) len (tkE (I 96) len p)) from rfl, show (va_up (va_up A 0 (nI (vN (I 96) len (tkE (I 96) len p)))) 1 (nI (vN (I 96) len (tkE (I 96) len (tkE (I 96) len p))))) 1 = nI (vN (I 96) len (tkE (I 96) len (tkE (I 96) len p))) from rfl] at q; exact q) (m_go ?_)
        show AW _ _ _ _ _ _ _ _ [] _ _ _ _
        refine a_iconstN (a := 1) dM_logLine_53 (by decide) ?_
        exact a_zret dM_logLine_54 rfl (by rfl) (by
        rw [olq, show shA 9 = [false, false] from rfl, ms0_n t0, ms0_n t1, ms0_e]
        have r := rr_9 he.2 t0 t1 hc40 hd0 hRR (T := I 96) (b := (tkB (I 96) len p))
        rw [decide_eq_false tb9, s1_f, if_pos hc9] at r
        exact ⟨rfl, Or.inr ⟨rfl, rfl, rfl, _, _, _, _, _, _, _, hS3, r, rfl⟩⟩)
      ·
        refine a_callV (Q' := (tq0 I J R (tkB (I 96) len (tkE (I 96) len (tkE (I 96) len p))) D (va_up A 0 (nI (vN (I 96) len (tkE (I 96) len p)))))) (as := [.int (nI 1), .int (nI 0), .int (nI 99)]) (st := []) dM_logLine_38 ml12_161 rfl (Nat.le_of_ble_eq_true rfl) ly_95 rfl rfl (by decide) (by omega) (Nat.le_of_ble_eq_true rfl) rfl (Nat.le_refl _) (Nat.le_refl _) (r_take0 (D := D) (A := (va_up A 0 (nI (vN (I 96) len (tkE (I 96) len p))))) hn hR hl6 hby q1 hS2 t1) ?_
        intro v9 I9 J9 R9 ⟨e1, ⟨w9, e2⟩, e3, F9, h15, e4⟩
        rw [e1, e2, e3, e4]
        show AW _ _ _ _ _ _ _ _ [.int 0] (m_row (m_row (m_row I 95 F9) 104 D) 105 (va_up A 0 (nI (vN (I 96) len (tkE (I 96) len p))))) _ _ _
        refine a_if_ne (tgt := 46) dM_logLine_41 (by decide) (fun c => False.elim (c rfl)) (fun _ => ?_)
        refine a_iconstN (a := 0) dM_logLine_44 (by decide) ?_
        exact a_zret dM_logLine_45 rfl (by rfl) (by
        rw [olq, show shA 9 = [false, false] from rfl, ms0_n t0, ms0_n0 t1]
        exact ⟨rfl, Or.inl ⟨rfl, rfl, ⟨_, rfl⟩, _, _, _, h15, rfl⟩⟩)
    ·
      refine a_callV (Q' := (tq0 I J R (tkB (I 96) len (tkE (I 96) len p)) D A)) (as := [.int (nI 0)]) (st := []) dM_logLine_27 ml12_182 rfl (Nat.le_of_ble_eq_true rfl) ly_95 rfl rfl (by decide) (by omega) (Nat.le_of_ble_eq_true rfl) rfl (Nat.le_refl _) (Nat.le_refl _) (r_takeHouse0 (D := D) (A := A) hn hR hl6 hby he.2 hS1 t0) ?_
      intro v9 I9 J9 R9 ⟨e1, ⟨w9, e2⟩, e3, F9, h15, e4⟩
      rw [e1, e2, e3, e4]
      show AW _ _ _ _ _ _ _ _ [.int 0] (m_row (m_row (m_row I 95 F9) 104 D) 105 A) _ _ _
      refine a_if_eq (tgt := 44) dM_logLine_30 (by decide) (fun _ => ?_) (fun c => False.elim (c rfl))
      refine a_iconstN (a := 0) dM_logLine_44 (by decide) ?_
      exact a_zret dM_logLine_45 rfl (by rfl) (by
        rw [olq, show shA 9 = [false, false] from rfl, ms0_n0 t0]
        exact ⟨rfl, Or.inl ⟨rfl, rfl, ⟨_, rfl⟩, _, _, _, h15, rfl⟩⟩)
theorem r_lgN {S : Nat × (Nat → Int32)} {d n : Nat} {I : mI} {J : mJ} {R : mR} (hn : 122 ≤ n) (hR : m_fin R) {len : Nat} (hl6 : len ≤ 600) (hby : byT (I 96) len) {p : Nat} (hp : p ≤ len) {x : Nat × Nat} {gh gl : Int32} {F D A : Nat → Int32} (hS : RS (I 96) len p x gh gl 1 F) {w wv : Int64} (hw1 : lg_cmp wv 1836019556 = 0 ↔ iwT (I 96) len p 1) (n1 : ¬ iwT (I 96) len p 1) : AW S (d + 6) YM_logLine n n (tq0 I J R (tkB (I 96) len p) D A) 0 [(0, .ref 95), (1, .long wv), (3, .int (nI (tkB (I 96) len p)))] [] (m_row (m_row (m_row I 95 F) 104 D) 105 A) (m_up J 95 14 w) R n := by
  refine a_lload_n 1 dM_logLine_0 rfl rfl ?_
  refine a_ldc2 (v := 1836019556) dM_logLine_1 cn12_198 ?_
  refine a_lcmp dM_logLine_4 ?_
  refine a_if_eq (tgt := 13) dM_logLine_5 (by decide) (fun c => False.elim (n1 (hw1.mp c))) (fun _ => ?_)
  refine a_aload_n 0 dM_logLine_8 rfl rfl ?_
  refine a_callV (Q' := m_res (some (.int 0)) (mRd I (va_up F 15 (F 11)) D A) (m_up J 95 14 w) R) (as := []) (st := []) dM_logLine_9 ml12_142 rfl (Nat.le_of_ble_eq_true rfl) ly_95 rfl rfl (by decide) (by omega) (Nat.le_of_ble_eq_true rfl) rfl (Nat.le_refl _) (Nat.le_refl _) (c_fails hn hR) (m_go ?_)
  show AW _ _ _ _ _ _ _ _ [.int 0] _ _ _ _
  exact a_zret dM_logLine_12 rfl (by rfl) ⟨rfl, ⟨_, rfl⟩, rfl, _, hS.h11, rfl⟩
