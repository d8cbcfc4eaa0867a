def olq (I : mI) (J : mJ) (R : mR) (len l of p : Nat) (st : TS) (v : Option Value) (I2 : mI) (J2 : mJ) (R2 : mR) : Prop :=
  R2 = R ∧ ((v = some (.int 0) ∧ (ms0 (I 96) len (shA l) (tkE (I 96) len p)).1 = false ∧ (∃ w, J2 = m_up J 95 14 w) ∧ ∃ F' D' A', F' 15 = nI (tkB (I 96) len (ms0 (I 96) len (shA l) (tkE (I 96) len p)).2) ∧ I2 = mRd I F' D' A')
  ∨ (v = some (.int 1) ∧ (ms0 (I 96) len (shA l) (tkE (I 96) len p)).1 = true ∧ J2 = m_up J 95 14 (tkW (I 96) len (ms0 (I 96) len (shA l) (tkE (I 96) len p)).2) ∧ ∃ F' A' g' D' gh' gl' x', RS (I 96) len (ms0 (I 96) len (shA l) (tkE (I 96) len p)).2 x' gh' gl' g' F' ∧ RR of (stA (I 96) len l (tkB (I 96) len p) (tkE (I 96) len p) st) x' gh' gl' D' ∧ I2 = mRd I F' D' A'))
theorem iw_02 {T : Nat → Int32} {len p : Nat} (h : iwT T len p 0) : ¬ iwT T len p 2 := fun q => by
  have a := h.2.2 0 (by decide)
  have b := q.2.2 0 (by decide)
  exact absurd (a.symm.trans b) (by decide)
theorem r_off0 {S : Nat × (Nat → Int32)} {d n : Nat} {I : mI} {J : mJ} {R : mR} (hn : 122 ≤ n) (hR : m_fin R) {len : Nat} (hl6 : len ≤ 600) (hby : byT (I 96) len) {p : Nat} (hp : p ≤ len) {x : Nat × Nat} {gh gl : Int32} {F D A : Nat → Int32} (hS : RS (I 96) len p x gh gl 1 F) {w wv : Int64} (hw0 : lg_cmp wv 114827921155443 = 0 ↔ iwT (I 96) len p 0) (hw1 : lg_cmp wv 1836019556 = 0 ↔ iwT (I 96) len p 1) (hw2 : lg_cmp wv 119183001281906 = 0 ↔ iwT (I 96) len p 2) (hw3 : lg_cmp wv 7102839 = 0 ↔ iwT (I 96) len p 3) (hw4 : lg_cmp wv 469920277619 = 0 ↔ iwT (I 96) len p 4) (y0 : iwT (I 96) len p 0) (n1 : ¬ iwT (I 96) len p 1) (n2 : ¬ iwT (I 96) len p 2) (n3 : ¬ iwT (I 96) len p 3) (n4 : ¬ iwT (I 96) len p 4) {st : TS} (hRR : RR 0 st x gh gl D) : AW S (d + 6) YM_officeLine n n (olq I J R len 0 0 p st) 0 [(0, .ref 95), (1, .long wv), (3, .int (nI (tkB (I 96) len p)))] [] (m_row (m_row (m_row I 95 F) 104 D) 105 A) (m_up J 95 14 w) R n := by
  have hb := tkB_le (T := I 96) hp
  have he := tkE_le (T := I 96) hp
  have hbe := tkE_lt (T := I 96) hp (tk_wd y0.1).1
  obtain ⟨c, nw, hc10, hw8, hD1, hD2⟩ := hRR.2.2.2.1 rfl
  refine a_lload_n 1 dM_officeLine_0 rfl rfl ?_
  refine a_ldc2 (v := 114827921155443) dM_officeLine_1 cn12_196 ?_
  refine a_lcmp dM_officeLine_4 ?_
  refine a_if_eq (tgt := 45) dM_officeLine_5 (by decide) (fun _ => ?_) (fun c => False.elim (c (hw0.mpr y0)))
  refine a_lload_n 1 dM_officeLine_45 rfl rfl ?_
  refine a_ldc2 (v := 119183001281906) dM_officeLine_46 cn12_200 ?_
  refine a_lcmp dM_officeLine_49 ?_
  refine a_if_ne (tgt := 61) dM_officeLine_50 (by decide) (fun _ => ?_) (fun c => False.elim (n2 (hw2.mp c)))
  refine a_aload_n 0 dM_officeLine_61 rfl rfl ?_
  refine a_callV (Q' := m_res none (mRd I (tkG (I 96) len (tkE (I 96) len p) F) D A) (m_up J 95 14 (tkW (I 96) len (tkE (I 96) len p))) R) (as := []) (st := []) dM_officeLine_62 ml12_154 rfl (Nat.le_of_ble_eq_true rfl) ly_95 rfl rfl (by decide) (by omega) (Nat.le_of_ble_eq_true rfl) rfl (Nat.le_refl _) (Nat.le_refl _) (c_tok (S := S) (d := d + 4) (n := n) (F := F) (D := D) (A := A) (w := w) hn hR hl6 hby he.2 hS.h9 hS.h10) (m_go ?_)
  show AW _ _ _ _ _ _ _ _ [] _ _ _ _
  refine a_lload_n 1 dM_officeLine_65 rfl rfl ?_
  refine a_ldc2 (v := 114827921155443) dM_officeLine_66 cn12_196 ?_
  refine a_lcmp dM_officeLine_69 ?_
  refine a_if_ne (tgt := 100) dM_officeLine_70 (by decide) (fun c => False.elim (c (hw0.mpr y0))) (fun _ => ?_)
  refine a_aload_n 0 dM_officeLine_73 rfl rfl ?_
  refine a_iconstN (a := 0) dM_officeLine_74 (by decide) ?_
  refine a_iconstN (a := 1) dM_officeLine_75 (by decide) ?_
  refine a_bipushN (a := 6) dM_officeLine_76 (by decide) ?_
  have hS1 : RS (I 96) len (tkE (I 96) len p) x gh gl 1 (tkG (I 96) len (tkE (I 96) len p) F) := (RS_tk hby he.2 hS.h10 hS.f5 hS.h16 hS.h17 (fun z => Nat.lt_of_lt_of_le (hS.hlp z) (Nat.le_trans hb.1 he.1)) hS.h20 hS.h21 hS.h22)
  by_cases t0 : tkS (I 96) len (tkE (I 96) len p) = 2
  ·
    refine a_callV (Q' := (tq1 I J R len (tkE (I 96) len (tkE (I 96) len p)) (s1 x (bdB (vN (I 96) len (tkE (I 96) len p)) 1 6) (2, (tkB (I 96) len (tkE (I 96) len p)))) gh gl (if (bdB (vN (I 96) len (tkE (I 96) len p)) 1 6) = true then 0 else 1) D (va_up A 0 (nI (vN (I 96) len (tkE (I 96) len p)))))) (as := [.int (nI 0), .int (nI 1), .int (nI 6)]) (st := []) dM_officeLine_78 ml12_161 rfl (Nat.le_of_ble_eq_true rfl) ly_95 rfl rfl (by decide) (by omega) (Nat.le_of_ble_eq_true rfl) rfl (Nat.le_refl _) (Nat.le_refl _) (r_take1 (D := D) (A := A) hn hR hl6 hby he.2 hS1 (by decide) (by decide) (by decide) t0) ?_
    intro v9 I9 J9 R9 ⟨e1, e2, e3, F2, hS2, e4⟩
    rw [e1, e2, e3, e4]
    show AW _ _ _ _ _ _ _ _ [.int 1] (m_row (m_row (m_row I 95 F2) 104 D) 105 (va_up A 0 (nI (vN (I 96) len (tkE (I 96) len p))))) _ _ _
    refine a_if_ne (tgt := 86) dM_officeLine_81 (by decide) (fun _ => ?_) (fun c => False.elim (absurd c (by decide)))
    refine a_aload_n 0 dM_officeLine_86 rfl rfl ?_
    refine a_geta (r := 104) dM_officeLine_87 fl12_35 rfl ly_95 (by omega) (rf_95_18 hR) ?_
    refine a_iconstN (a := 0) dM_officeLine_90 (by decide) ?_
    refine a_aload_n 0 dM_officeLine_91 rfl rfl ?_
    refine a_geta (r := 105) dM_officeLine_92 fl12_38 rfl ly_95 (by omega) (rf_95_19 hR) ?_
    refine a_iconstN (a := 0) dM_officeLine_95 (by decide) ?_
    refine a_ialdN (a := 0) dM_officeLine_96 ly_105 (by omega) (by omega) (by decide) ?_
    rw [show (m_row (m_row (m_row I 95 F2) 104 D) 105 (va_up A 0 (nI (vN (I 96) len (tkE (I 96) len p))))) 105 0 = (nI (vN (I 96) len (tkE (I 96) len p))) from (by rw [m_row_eq]; exact va_up_self _ _ _)]
    refine a_iastN (a := 0) dM_officeLine_97 ly_104 (by omega) (by omega) (by decide) ?_
    rw [show m_up (m_row (m_row (m_row I 95 F2) 104 D) 105 (va_up A 0 (nI (vN (I 96) len (tkE (I 96) len p))))) 104 0 (nI (vN (I 96) len (tkE (I 96) len p))) = (m_row (m_row (m_row I 95 F2) 104 (va_up D 0 (nI (vN (I 96) len (tkE (I 96) len p))))) 105 (va_up A 0 (nI (vN (I 96) len (tkE (I 96) len p))))) from (by rw [m_up_comm (by decide), m_up_r])]
    refine a_iconstN (a := 1) dM_officeLine_98 (by decide) ?_
    exact a_zret dM_officeLine_99 rfl (by rfl) (by
          rw [olq, show shA 0 = [false] from rfl, ms0_n t0, ms0_e]
          exact ⟨rfl, Or.inr ⟨rfl, rfl, rfl, _, _, _, _, _, _, _, hS2, rr_0 he.2 t0 hRR, rfl⟩⟩)
  ·
    refine a_callV (Q' := (tq0 I J R (tkB (I 96) len (tkE (I 96) len p)) D A)) (as := [.int (nI 0), .int (nI 1), .int (nI 6)]) (st := []) dM_officeLine_78 ml12_161 rfl (Nat.le_of_ble_eq_true rfl) ly_95 rfl rfl (by decide) (by omega) (Nat.le_of_ble_eq_true rfl) rfl (Nat.le_refl _) (Nat.le_refl _) (r_take0 (D := D) (A := A) hn hR hl6 hby he.2 hS1 t0) ?_
    intro v9 I9 J9 R9 ⟨e1, ⟨w9, e2⟩, e3, F9, h15, e4⟩
    rw [e1, e2, e3, e4]
    show AW _ _ _ _ _ _ _ _ [.int 0] (m_row (m_row (m_row I 95 F9) 104 D) 105 A) _ _ _
    refine a_if_ne (tgt := 86) dM_officeLine_81 (by decide) (fun c => False.elim (c rfl)) (fun _ => ?_)
    refine a_iconstN (a := 0) dM_officeLine_84 (by decide) ?_
    exact a_zret dM_officeLine_85 rfl (by rfl) (by
          rw [olq, show shA 0 = [false] from rfl, ms0_n0 t0]
          exact ⟨rfl, Or.inl ⟨rfl, rfl, ⟨_, rfl⟩, _, _, _, h15, rfl⟩⟩)
theorem r_off1 {S : Nat × (Nat → Int32)} {d n : Nat} {I : mI} {J : mJ} {R : mR} (hn : 122 ≤ n) (hR : m_fin R) {len : Nat} (hl6 : len ≤ 600) (hby : byT (I 96) len) {p : Nat} (hp : p ≤ len) {x : Nat × Nat} {gh gl : Int32} {F D A : Nat → Int32} (hS : RS (I 96) len p x gh gl 1 F) {w wv : Int64} (hw0 : lg_cmp wv 114827921155443 = 0 ↔ iwT (I 96) len p 0) (hw1 : lg_cmp wv 1836019556 = 0 ↔ iwT (I 96) len p 1) (hw2 : lg_cmp wv 119183001281906 = 0 ↔ iwT (I 96) len p 2) (hw3 : lg_cmp wv 7102839 = 0 ↔ iwT (I 96) len p 3) (hw4 : lg_cmp wv 469920277619 = 0 ↔ iwT (I 96) len p 4) (y1 : iwT (I 96) len p 1) (n0 : ¬ iwT (I 96) len p 0) (n2 : ¬ iwT (I 96) len p 2) (n3 : ¬ iwT (I 96) len p 3) (n4 : ¬ iwT (I 96) len p 4) {st : TS} (hRR : RR 0 st x gh gl D) : AW S (d + 6) YM_officeLine n n (olq I J R len 1 0 p st) 0 [(0, .ref 95), (1, .long wv), (3, .int (nI (tkB (I 96) len p)))] [] (m_row (m_row (m_row I 95 F) 104 D) 105 A) (m_up J 95 14 w) R n := by
  have hb := tkB_le (T := I 96) hp
  have he := tkE_le (T := I 96) hp
  have hbe := tkE_lt (T := I 96) hp (tk_wd y1.1).1
  obtain ⟨c, nw, hc10, hw8, hD1, hD2⟩ := hRR.2.2.2.1 rfl
  refine a_lload_n 1 dM_officeLine_0 rfl rfl ?_
  refine a_ldc2 (v := 114827921155443) dM_officeLine_1 cn12_196 ?_
  refine a_lcmp dM_officeLine_4 ?_
  refine a_if_eq (tgt := 45) dM_officeLine_5 (by decide) (fun c => False.elim (n0 (hw0.mp c))) (fun _ => ?_)
  refine a_lload_n 1 dM_officeLine_8 rfl rfl ?_
  refine a_ldc2 (v := 1836019556) dM_officeLine_9 cn12_198 ?_
  refine a_lcmp dM_officeLine_12 ?_
  refine a_if_eq (tgt := 45) dM_officeLine_13 (by decide) (fun _ => ?_) (fun c => False.elim (c (hw1.mpr y1)))
  refine a_lload_n 1 dM_officeLine_45 rfl rfl ?_
  refine a_ldc2 (v := 119183001281906) dM_officeLine_46 cn12_200 ?_
  refine a_lcmp dM_officeLine_49 ?_
  refine a_if_ne (tgt := 61) dM_officeLine_50 (by decide) (fun _ => ?_) (fun c => False.elim (n2 (hw2.mp c)))
  refine a_aload_n 0 dM_officeLine_61 rfl rfl ?_
  refine a_callV (Q' := m_res none (mRd I (tkG (I 96) len (tkE (I 96) len p) F) D A) (m_up J 95 14 (tkW (I 96) len (tkE (I 96) len p))) R) (as := []) (st := []) dM_officeLine_62 ml12_154 rfl (Nat.le_of_ble_eq_true rfl) ly_95 rfl rfl (by decide) (by omega) (Nat.le_of_ble_eq_true rfl) rfl (Nat.le_refl _) (Nat.le_refl _) (c_tok (S := S) (d := d + 4) (n := n) (F := F) (D := D) (A := A) (w := w) hn hR hl6 hby he.2 hS.h9 hS.h10) (m_go ?_)
  show AW _ _ _ _ _ _ _ _ [] _ _ _ _
  refine a_lload_n 1 dM_officeLine_65 rfl rfl ?_
  refine a_ldc2 (v := 114827921155443) dM_officeLine_66 cn12_196 ?_
  refine a_lcmp dM_officeLine_69 ?_
  refine a_if_ne (tgt := 100) dM_officeLine_70 (by decide) (fun _ => ?_) (fun c => False.elim (n0 (hw0.mp c)))
  refine a_lload_n 1 dM_officeLine_100 rfl rfl ?_
  refine a_ldc2 (v := 1836019556) dM_officeLine_101 cn12_198 ?_
  refine a_lcmp dM_officeLine_104 ?_
  refine a_if_ne (tgt := 115) dM_officeLine_105 (by decide) (fun c => False.elim (c (hw1.mpr y1))) (fun _ => ?_)
  refine a_aload_n 0 dM_officeLine_108 rfl rfl ?_
  have hS1 : RS (I 96) len (tkE (I 96) len p) x gh gl 1 (tkG (I 96) len (tkE (I 96) len p) F) := (RS_tk hby he.2 hS.h10 hS.f5 hS.h16 hS.h17 (fun z => Nat.lt_of_lt_of_le (hS.hlp z) (Nat.le_trans hb.1 he.1)) hS.h20 hS.h21 hS.h22)
  refine a_callV (Q' := (lq I J R len [false, false] (tkE (I 96) len p) (s1 (s1 x (bdB (vN (I 96) len (tkE (I 96) len p)) 0 5) (2, (tkB (I 96) len (tkE (I 96) len p)))) (bdB (vN (I 96) len (tkE (I 96) len (tkE (I 96) len p))) 0 50) (2, (tkB (I 96) len (tkE (I 96) len (tkE (I 96) len p))))) (mxI gh (vN (I 96) len (tkE (I 96) len p))) gl (if ((bdB (vN (I 96) len (tkE (I 96) len p)) 0 5) || (bdB (vN (I 96) len (tkE (I 96) len (tkE (I 96) len p))) 0 50)) = true then D else va_up D (3 + (vN (I 96) len (tkE (I 96) len p))) (nI (vN (I 96) len (tkE (I 96) len (tkE (I 96) len p))))))) (as := []) (st := []) dM_officeLine_109 ml12_206 rfl (Nat.le_of_ble_eq_true rfl) ly_95 rfl rfl (by decide) (by omega) (Nat.le_of_ble_eq_true rfl) rfl (Nat.le_refl _) (Nat.le_refl _) (r_mood (F := (tkG (I 96) len (tkE (I 96) len p) F)) (D := D) (A := A) hn hR hl6 hby he.2 hS1 ) ?_
  intro v9 I9 J9 R9 hq9
  rcases hq9 with ⟨e3, ⟨e1, m1, ⟨w9, e2⟩, F9, D9, A9, h15, e4⟩ | ⟨e1, m1, e2, F9, A9, g9, hS9, e4⟩⟩
  · rw [e1, e2, e3, e4]
    show AW _ _ _ _ _ _ _ _ [.int 0] _ _ _ _
    refine a_goto (tgt := 150) dM_officeLine_112 (by decide) ?_
    exact a_zret dM_officeLine_150 rfl (by rfl) ⟨rfl, Or.inl ⟨rfl, m1, ⟨w9, rfl⟩, F9, D9, A9, h15, rfl⟩⟩
  · rw [e1, e2, e3, e4]
    show AW _ _ _ _ _ _ _ _ [.int 1] _ _ _ _
    refine a_goto (tgt := 150) dM_officeLine_112 (by decide) ?_
    exact a_zret dM_officeLine_150 rfl (by rfl) (by
          have m2 := mt14 m1
          obtain ⟨t0, t1, _⟩ := m2
          exact ⟨rfl, Or.inr ⟨rfl, m1, rfl, F9, A9, g9, _, _, _, _, hS9, rr_1 he.2 t0 t1 hRR, rfl⟩⟩)
theorem r_off2 {S : Nat × (Nat → Int32)} {d n : Nat} {I : mI} {J : mJ} {R : mR} (hn : 122 ≤ n) (hR : m_fin R) {len : Nat} (hl6 : len ≤ 600) (hby : byT (I 96) len) {p : Nat} (hp : p ≤ len) {x : Nat × Nat} {gh gl : Int32} {F D A : Nat → Int32} (hS : RS (I 96) len p x gh gl 1 F) {w wv : Int64} (hw0 : lg_cmp wv 114827921155443 = 0 ↔ iwT (I 96) len p 0) (hw1 : lg_cmp wv 1836019556 = 0 ↔ iwT (I 96) len p 1) (hw2 : lg_cmp wv 119183001281906 = 0 ↔ iwT (I 96) len p 2) (hw3 : lg_cmp wv 7102839 = 0 ↔ iwT (I 96) len p 3) (hw4 : lg_cmp wv 469920277619 = 0 ↔ iwT (I 96) len p 4) (y2 : iwT (I 96) len p 2) (n0 : ¬ iwT (I 96) len p 0) (n1 : ¬ iwT (I 96) len p 1) (n3 : ¬ iwT (I 96) len p 3) (n4 : ¬ iwT (I 96) len p 4) {st : TS} (hRR : RR 0 st x gh gl D) : AW S (d + 6) YM_officeLine n n (olq I J R len 2 0 p st) 0 [(0, .ref 95), (1, .long wv), (3, .int (nI (tkB (I 96) len p)))] [] (m_row (m_row (m_row I 95 F) 104 D) 105 A) (m_up J 95 14 w) R n := by
  have hb := tkB_le (T := I 96) hp
  have he := tkE_le (T := I 96) hp
  have hbe := tkE_lt (T := I 96) hp (tk_wd y2.1).1
  obtain ⟨c, nw, hc10, hw8, hD1, hD2⟩ := hRR.2.2.2.1 rfl
  by_cases tb9 : D 1 = nI 10
  · have lt9 := ltF_s (F := F) (q := (tkB (I 96) len p)) hS.f5 (show 3 < 5 by decide) hS.h16 hS.h17
    refine a_lload_n 1 dM_officeLine_0 rfl rfl ?_
    refine a_ldc2 (v := 114827921155443) dM_officeLine_1 cn12_196 ?_
    refine a_lcmp dM_officeLine_4 ?_
    refine a_if_eq (tgt := 45) dM_officeLine_5 (by decide) (fun c => False.elim (n0 (hw0.mp c))) (fun _ => ?_)
    refine a_lload_n 1 dM_officeLine_8 rfl rfl ?_
    refine a_ldc2 (v := 1836019556) dM_officeLine_9 cn12_198 ?_
    refine a_lcmp dM_officeLine_12 ?_
    refine a_if_eq (tgt := 45) dM_officeLine_13 (by decide) (fun c => False.elim (n1 (hw1.mp c))) (fun _ => ?_)
    refine a_lload_n 1 dM_officeLine_16 rfl rfl ?_
    refine a_ldc2 (v := 119183001281906) dM_officeLine_17 cn12_200 ?_
    refine a_lcmp dM_officeLine_20 ?_
    refine a_if_eq (tgt := 45) dM_officeLine_21 (by decide) (fun _ => ?_) (fun c => False.elim (c (hw2.mpr y2)))
    refine a_lload_n 1 dM_officeLine_45 rfl rfl ?_
    refine a_ldc2 (v := 119183001281906) dM_officeLine_46 cn12_200 ?_
    refine a_lcmp dM_officeLine_49 ?_
    refine a_if_ne (tgt := 61) dM_officeLine_50 (by decide) (fun c => False.elim (c (hw2.mpr y2))) (fun _ => ?_)
    refine a_aload_n 0 dM_officeLine_53 rfl rfl ?_
    refine a_iconstN (a := 1) dM_officeLine_54 (by decide) ?_
    refine a_bipushN (a := 10) dM_officeLine_55 (by decide) ?_
    refine a_iload_n 2 dM_officeLine_57 rfl rfl ?_
    refine a_callV (Q' := m_res none (mRd I (ltF x F 3 (tkB (I 96) len p)) D A) (m_up J 95 14 w) R) (as := [.int (nI 1), .int (nI 10), .int (nI (tkB (I 96) len p))]) (st := []) dM_officeLine_58 ml12_189 rfl (Nat.le_of_ble_eq_true rfl) ly_95 rfl rfl (by decide) (by omega) (Nat.le_of_ble_eq_true rfl) rfl (Nat.le_refl _) (Nat.le_refl _) (c_full1 hn hR (by decide) hS.f5 hS.h16 hS.h17 (by omega) (fun z => Nat.lt_of_lt_of_le (hS.hlp z) hb.1) tb9) (m_go ?_)
    show AW _ _ _ _ _ _ _ _ [] _ _ _ _
    refine a_aload_n 0 dM_officeLine_61 rfl rfl ?_
    refine a_callV (Q' := m_res none (mRd I (tkG (I 96) len (tkE (I 96) len p) (ltF x F 3 (tkB (I 96) len p))) D A) (m_up J 95 14 (tkW (I 96) len (tkE (I 96) len p))) R) (as := []) (st := []) dM_officeLine_62 ml12_154 rfl (Nat.le_of_ble_eq_true rfl) ly_95 rfl rfl (by decide) (by omega) (Nat.le_of_ble_eq_true rfl) rfl (Nat.le_refl _) (Nat.le_refl _) (c_tok (S := S) (d := d + 4) (n := n) (F := (ltF x F 3 (tkB (I 96) len p))) (D := D) (A := A) (w := w) hn hR hl6 hby he.2 ((ltF_o (by decide) (by decide)).trans hS.h9) ((ltF_o (by decide) (by decide)).trans hS.h10)) (m_go ?_)
    show AW _ _ _ _ _ _ _ _ [] _ _ _ _
    refine a_lload_n 1 dM_officeLine_65 rfl rfl ?_
    refine a_ldc2 (v := 114827921155443) dM_officeLine_66 cn12_196 ?_
    refine a_lcmp dM_officeLine_69 ?_
    refine a_if_ne (tgt := 100) dM_officeLine_70 (by decide) (fun _ => ?_) (fun c => False.elim (n0 (hw0.mp c)))
    refine a_lload_n 1 dM_officeLine_100 rfl rfl ?_
    refine a_ldc2 (v := 1836019556) dM_officeLine_101 cn12_198 ?_
    refine a_lcmp dM_officeLine_104 ?_
    refine a_if_ne (tgt := 115) dM_officeLine_105 (by decide) (fun _ => ?_) (fun c => False.elim (n1 (hw1.mp c)))
    refine a_lload_n 1 dM_officeLine_115 rfl rfl ?_
    refine a_ldc2 (v := 119183001281906) dM_officeLine_116 cn12_200 ?_
    refine a_lcmp dM_officeLine_119 ?_
    refine a_if_ne (tgt := 130) dM_officeLine_120 (by decide) (fun c => False.elim (c (hw2.mpr y2))) (fun _ => ?_)
    refine a_aload_n 0 dM_officeLine_123 rfl rfl ?_
    have hS1 : RS (I 96) len (tkE (I 96) len p) (s1 x true (3, (tkB (I 96) len p))) gh gl 1 (tkG (I 96) len (tkE (I 96) len p) (ltF x F 3 (tkB (I 96) len p))) := (RS_tk (F := ltF x F 3 (tkB (I 96) len p)) hby he.2 ((ltF_o (by decide) (by decide)).trans hS.h10) lt9.1 lt9.2.1 lt9.2.2 (s1_lt (fun z => Nat.lt_of_lt_of_le (hS.hlp z) (Nat.le_trans hb.1 he.1)) hbe) ((ltF_o (by decide) (by decide)).trans hS.h20) ((ltF_o (by decide) (by decide)).trans hS.h21) ((ltF_o (by decide) (by decide)).trans hS.h22))
    refine a_callV (Q' := (lq I J R len [false, true, false] (tkE (I 96) len p) (s1 (s1 (s1 x true (3, (tkB (I 96) len p))) (bdB (vN (I 96) len (tkE (I 96) len p)) 0 5) (2, (tkB (I 96) len (tkE (I 96) len p)))) (bdB (vN (I 96) len (tkE (I 96) len (tkE (I 96) len (tkE (I 96) len p)))) 1 9) (2, (tkB (I 96) len (tkE (I 96) len (tkE (I 96) len (tkE (I 96) len p)))))) (mxI gh (vN (I 96) len (tkE (I 96) len p))) gl (if c < 10 then ltU D c (nI (vN (I 96) len (tkE (I 96) len p))) (nI (kN (I 96) len (tkE (I 96) len (tkE (I 96) len p)))) (nI (vN (I 96) len (tkE (I 96) len (tkE (I 96) len (tkE (I 96) len p))))) else D))) (as := []) (st := []) dM_officeLine_124 ml12_209 rfl (Nat.le_of_ble_eq_true rfl) ly_95 rfl rfl (by decide) (by omega) (Nat.le_of_ble_eq_true rfl) rfl (Nat.le_refl _) (Nat.le_refl _) (r_letter (F := (tkG (I 96) len (tkE (I 96) len p) (ltF x F 3 (tkB (I 96) len p)))) (D := D) (A := A) hn hR hl6 hby he.2 hS1 hD1 hc10) ?_
    intro v9 I9 J9 R9 hq9
    rcases hq9 with ⟨e3, ⟨e1, m1, ⟨w9, e2⟩, F9, D9, A9, h15, e4⟩ | ⟨e1, m1, e2, F9, A9, g9, hS9, e4⟩⟩
    · rw [e1, e2, e3, e4]
      show AW _ _ _ _ _ _ _ _ [.int 0] _ _ _ _
      refine a_goto (tgt := 150) dM_officeLine_127 (by decide) ?_
      exact a_zret dM_officeLine_150 rfl (by rfl) ⟨rfl, Or.inl ⟨rfl, m1, ⟨w9, rfl⟩, F9, D9, A9, h15, rfl⟩⟩
    · rw [e1, e2, e3, e4]
      show AW _ _ _ _ _ _ _ _ [.int 1] _ _ _ _
      refine a_goto (tgt := 150) dM_officeLine_127 (by decide) ?_
      exact a_zret dM_officeLine_150 rfl (by rfl) (by
          have m2 := mt10 m1
          obtain ⟨t0, t1, t2, _⟩ := m2
          exact ⟨rfl, Or.inr ⟨rfl, m1, rfl, F9, A9, g9, _, _, _, _, hS9, (by have r := rr_2 he.2 t0 t1 t2 hc10 hw8 hD1 hD2 hRR (b := (tkB (I 96) len p)); rw [decide_eq_true tb9] at r; exact r), rfl⟩⟩)
  ·
    refine a_lload_n 1 dM_officeLine_0 rfl rfl ?_
    refine a_ldc2 (v := 114827921155443) dM_officeLine_1 cn12_196 ?_
    refine a_lcmp dM_officeLine_4 ?_
    refine a_if_eq (tgt := 45) dM_officeLine_5 (by decide) (fun c => False.elim (n0 (hw0.mp c))) (fun _ => ?_)
    refine a_lload_n 1 dM_officeLine_8 rfl rfl ?_
    refine a_ldc2 (v := 1836019556) dM_officeLine_9 cn12_198 ?_
    refine a_lcmp dM_officeLine_12 ?_
    refine a_if_eq (tgt := 45) dM_officeLine_13 (by decide) (fun c => False.elim (n1 (hw1.mp c))) (fun _ => ?_)
    refine a_lload_n 1 dM_officeLine_16 rfl rfl ?_
    refine a_ldc2 (v := 119183001281906) dM_officeLine_17 cn12_200 ?_
    refine a_lcmp dM_officeLine_20 ?_
    refine a_if_eq (tgt := 45) dM_officeLine_21 (by decide) (fun _ => ?_) (fun c => False.elim (c (hw2.mpr y2)))
    refine a_lload_n 1 dM_officeLine_45 rfl rfl ?_
    refine a_ldc2 (v := 119183001281906) dM_officeLine_46 cn12_200 ?_
    refine a_lcmp dM_officeLine_49 ?_
    refine a_if_ne (tgt := 61) dM_officeLine_50 (by decide) (fun c => False.elim (c (hw2.mpr y2))) (fun _ => ?_)
    refine a_aload_n 0 dM_officeLine_53 rfl rfl ?_
    refine a_iconstN (a := 1) dM_officeLine_54 (by decide) ?_
    refine a_bipushN (a := 10) dM_officeLine_55 (by decide) ?_
    refine a_iload_n 2 dM_officeLine_57 rfl rfl ?_
    refine a_callV (Q' := m_res none (m_row (m_row (m_row I 95 F) 104 D) 105 A) (m_up J 95 14 w) R) (as := [.int (nI 1), .int (nI 10), .int (nI (tkB (I 96) len p))]) (st := []) dM_officeLine_58 ml12_189 rfl (Nat.le_of_ble_eq_true rfl) ly_95 rfl rfl (by decide) (by omega) (Nat.le_of_ble_eq_true rfl) rfl (Nat.le_refl _) (Nat.le_refl _) (c_full0 hn hR (by decide) tb9) (m_go ?_)
    show AW _ _ _ _ _ _ _ _ [] _ _ _ _
    refine a_aload_n 0 dM_officeLine_61 rfl rfl ?_
    refine a_callV (Q' := m_res none (mRd I (tkG (I 96) len (tkE (I 96) len p) F) D A) (m_up J 95 14 (tkW (I 96) len (tkE (I 96) len p))) R) (as := []) (st := []) dM_officeLine_62 ml12_154 rfl (Nat.le_of_ble_eq_true rfl) ly_95 rfl rfl (by decide) (by omega) (Nat.le_of_ble_eq_true rfl) rfl (Nat.le_refl _) (Nat.le_refl _) (c_tok (S := S) (d := d + 4) (n := n) (F := F) (D := D) (A := A) (w := w) hn hR hl6 hby he.2 hS.h9 hS.h10) (m_go ?_)
    show AW _ _ _ _ _ _ _ _ [] _ _ _ _
    refine a_lload_n 1 dM_officeLine_65 rfl rfl ?_
    refine a_ldc2 (v := 114827921155443) dM_officeLine_66 cn12_196 ?_
    refine a_lcmp dM_officeLine_69 ?_
    refine a_if_ne (tgt := 100) dM_officeLine_70 (by decide) (fun _ => ?_) (fun c => False.elim (n0 (hw0.mp c)))
    refine a_lload_n 1 dM_officeLine_100 rfl rfl ?_
    refine a_ldc2 (v := 1836019556) dM_officeLine_101 cn12_198 ?_
    refine a_lcmp dM_officeLine_104 ?_
    refine a_if_ne (tgt := 115) dM_officeLine_105 (by decide) (fun _ => ?_) (fun c => False.elim (n1 (hw1.mp c)))
    refine a_lload_n 1 dM_officeLine_115 rfl rfl ?_
    refine a_ldc2 (v := 119183001281906) dM_officeLine_116 cn12_200 ?_
    refine a_lcmp dM_officeLine_119 ?_
    refine a_if_ne (tgt := 130) dM_officeLine_120 (by decide) (fun c => False.elim (c (hw2.mpr y2))) (fun _ => ?_)
    refine a_aload_n 0 dM_officeLine_123 rfl rfl ?_
    have hS1 : RS (I 96) len (tkE (I 96) len p) x gh gl 1 (tkG (I 96) len (tkE (I 96) len p) F) := (RS_tk hby he.2 hS.h10 hS.f5 hS.h16 hS.h17 (fun z => Nat.lt_of_lt_of_le (hS.hlp z) (Nat.le_trans hb.1 he.1)) hS.h20 hS.h21 hS.h22)
    refine a_callV (Q' := (lq I J R len [false, true, false] (tkE (I 96) len p) (s1 (s1 x (bdB (vN (I 96) len (tkE (I 96) len p)) 0 5) (2, (tkB (I 96) len (tkE (I 96) len p)))) (bdB (vN (I 96) len (tkE (I 96) len (tkE (I 96) len (tkE (I 96) len p)))) 1 9) (2, (tkB (I 96) len (tkE (I 96) len (tkE (I 96) len (tkE (I 96) len p)))))) (mxI gh (vN (I 96) len (tkE (I 96) len p))) gl (if c < 10 then ltU D c (nI (vN (I 96) len (tkE (I 96) len p))) (nI (kN (I 96) len (tkE (I 96) len (tkE (I 96) len p)))) (nI (vN (I 96) len (tkE (I 96) len (tkE (I 96) len (tkE (I 96) len p))))) else D))) (as := []) (st := []) dM_officeLine_124 ml12_209 rfl (Nat.le_of_ble_eq_true rfl) ly_95 rfl rfl (by decide) (by omega) (Nat.le_of_ble_eq_true rfl) rfl (Nat.le_refl _) (Nat.le_refl _) (r_letter (F := (tkG (I 96) len (tkE (I 96) len p) F)) (D := D) (A := A) hn hR hl6 hby he.2 hS1 hD1 hc10) ?_
    intro v9 I9 J9 R9 hq9
    rcases hq9 with ⟨e3, ⟨e1, m1, ⟨w9, e2⟩, F9, D9, A9, h15, e4⟩ | ⟨e1, m1, e2, F9, A9, g9, hS9, e4⟩⟩
    · rw [e1, e2, e3, e4]
      show AW _ _ _ _ _ _ _ _ [.int 0] _ _ _ _
      refine a_goto (tgt := 150) dM_officeLine_127 (by decide) ?_
      exact a_zret dM_officeLine_150 rfl (by rfl) ⟨rfl, Or.inl ⟨rfl, m1, ⟨w9, rfl⟩, F9, D9, A9, h15, rfl⟩⟩
    · rw [e1, e2, e3, e4]
      show AW _ _ _ _ _ _ _ _ [.int 1] _ _ _ _
      refine a_goto (tgt := 150) dM_officeLine_127 (by decide) ?_
      exact a_zret dM_officeLine_150 rfl (by rfl) (by
          have m2 := mt10 m1
          obtain ⟨t0, t1, t2, _⟩ := m2
          exact ⟨rfl, Or.inr ⟨rfl, m1, rfl, F9, A9, g9, _, _, _, _, hS9, (by have r := rr_2 he.2 t0 t1 t2 hc10 hw8 hD1 hD2 hRR (b := (tkB (I 96) len p)); rw [decide_eq_false tb9, s1_f] at r; exact r), rfl⟩⟩)
theorem r_off3 {S : Nat × (Nat → Int32)} {d n : Nat} {I : mI} {J : mJ} {R : mR} (hn : 122 ≤ n) (hR : m_fin R) {len : Nat} (hl6 : len ≤ 600) (hby : byT (I 96) len) {p : Nat} (hp : p ≤ len) {x : Nat × Nat} {gh gl : Int32} {F D A : Nat → Int32} (hS : RS (I 96) len p x gh gl 1 F) {w wv : Int64} (hw0 : lg_cmp wv 114827921155443 = 0 ↔ iwT (I 96) len p 0) (hw1 : lg_cmp wv 1836019556 = 0 ↔ iwT (I 96) len p 1) (hw2 : lg_cmp wv 119183001281906 = 0 ↔ iwT (I 96) len p 2) (hw3 : lg_cmp wv 7102839 = 0 ↔ iwT (I 96) len p 3) (hw4 : lg_cmp wv 469920277619 = 0 ↔ iwT (I 96) len p 4) (y3 : iwT (I 96) len p 3) (n0 : ¬ iwT (I 96) len p 0) (n1 : ¬ iwT (I 96) len p 1) (n2 : ¬ iwT (I 96) len p 2) (n4 : ¬ iwT (I 96) len p 4) {st : TS} (hRR : RR 0 st x gh gl D) : AW S (d + 6) YM_officeLine n n (olq I J R len 3 0 p st) 0 [(0, .ref 95), (1, .long wv), (3, .int (nI (tkB (I 96) len p)))] [] (m_row (m_row (m_row I 95 F) 104 D) 105 A) (m_up J 95 14 w) R n := by
  have hb := tkB_le (T := I 96) hp
  have he := tkE_le (T := I 96) hp
  have hbe := tkE_lt (T := I 96) hp (tk_wd y3.1).1
  obtain ⟨c, nw, hc10, hw8, hD1, hD2⟩ := hRR.2.2.2.1 rfl
  refine a_lload_n 1 dM_officeLine_0 rfl rfl ?_
  refine a_ldc2 (v := 114827921155443) dM_officeLine_1 cn12_196 ?_
  refine a_lcmp dM_officeLine_4 ?_
  refine a_if_eq (tgt := 45) dM_officeLine_5 (by decide) (fun c => False.elim (n0 (hw0.mp c))) (fun _ => ?_)
  refine a_lload_n 1 dM_officeLine_8 rfl rfl ?_
  refine a_ldc2 (v := 1836019556) dM_officeLine_9 cn12_198 ?_
  refine a_lcmp dM_officeLine_12 ?_
  refine a_if_eq (tgt := 45) dM_officeLine_13 (by decide) (fun c => False.elim (n1 (hw1.mp c))) (fun _ => ?_)
  refine a_lload_n 1 dM_officeLine_16 rfl rfl ?_
  refine a_ldc2 (v := 119183001281906) dM_officeLine_17 cn12_200 ?_
  refine a_lcmp dM_officeLine_20 ?_
  refine a_if_eq (tgt := 45) dM_officeLine_21 (by decide) (fun c => False.elim (n2 (hw2.mp c))) (fun _ => ?_)
  refine a_lload_n 1 dM_officeLine_24 rfl rfl ?_
  refine a_ldc2 (v := 7102839) dM_officeLine_25 cn12_202 ?_
  refine a_lcmp dM_officeLine_28 ?_
  refine a_if_eq (tgt := 45) dM_officeLine_29 (by decide) (fun _ => ?_) (fun c => False.elim (c (hw3.mpr y3)))
  refine a_lload_n 1 dM_officeLine_45 rfl rfl ?_
  refine a_ldc2 (v := 119183001281906) dM_officeLine_46 cn12_200 ?_
  refine a_lcmp dM_officeLine_49 ?_
  refine a_if_ne (tgt := 61) dM_officeLine_50 (by decide) (fun _ => ?_) (fun c => False.elim (n2 (hw2.mp c)))
  refine a_aload_n 0 dM_officeLine_61 rfl rfl ?_
  refine a_callV (Q' := m_res none (mRd I (tkG (I 96) len (tkE (I 96) len p) F) D A) (m_up J 95 14 (tkW (I 96) len (tkE (I 96) len p))) R) (as := []) (st := []) dM_officeLine_62 ml12_154 rfl (Nat.le_of_ble_eq_true rfl) ly_95 rfl rfl (by decide) (by omega) (Nat.le_of_ble_eq_true rfl) rfl (Nat.le_refl _) (Nat.le_refl _) (c_tok (S := S) (d := d + 4) (n := n) (F := F) (D := D) (A := A) (w := w) hn hR hl6 hby he.2 hS.h9 hS.h10) (m_go ?_)
  show AW _ _ _ _ _ _ _ _ [] _ _ _ _
  refine a_lload_n 1 dM_officeLine_65 rfl rfl ?_
  refine a_ldc2 (v := 114827921155443) dM_officeLine_66 cn12_196 ?_
  refine a_lcmp dM_officeLine_69 ?_
  refine a_if_ne (tgt := 100) dM_officeLine_70 (by decide) (fun _ => ?_) (fun c => False.elim (n0 (hw0.mp c)))
  refine a_lload_n 1 dM_officeLine_100 rfl rfl ?_
  refine a_ldc2 (v := 1836019556) dM_officeLine_101 cn12_198 ?_
  refine a_lcmp dM_officeLine_104 ?_
  refine a_if_ne (tgt := 115) dM_officeLine_105 (by decide) (fun _ => ?_) (fun c => False.elim (n1 (hw1.mp c)))
  refine a_lload_n 1 dM_officeLine_115 rfl rfl ?_
  refine a_ldc2 (v := 119183001281906) dM_officeLine_116 cn12_200 ?_
  refine a_lcmp dM_officeLine_119 ?_
  refine a_if_ne (tgt := 130) dM_officeLine_120 (by decide) (fun _ => ?_) (fun c => False.elim (n2 (hw2.mp c)))
  refine a_lload_n 1 dM_officeLine_130 rfl rfl ?_
  refine a_ldc2 (v := 7102839) dM_officeLine_131 cn12_202 ?_
  refine a_lcmp dM_officeLine_134 ?_
  refine a_if_ne (tgt := 146) dM_officeLine_135 (by decide) (fun c => False.elim (c (hw3.mpr y3))) (fun _ => ?_)
  refine a_aload_n 0 dM_officeLine_138 rfl rfl ?_
  refine a_iload_n 2 dM_officeLine_139 rfl rfl ?_
  have hS1 : RS (I 96) len (tkE (I 96) len p) x gh gl 1 (tkG (I 96) len (tkE (I 96) len p) F) := (RS_tk hby he.2 hS.h10 hS.f5 hS.h16 hS.h17 (fun z => Nat.lt_of_lt_of_le (hS.hlp z) (Nat.le_trans hb.1 he.1)) hS.h20 hS.h21 hS.h22)
  refine a_callV (Q' := (lq I J R len [true, true, false] (tkE (I 96) len p) (s1 (s1 x (decide (D ((59 + (4 * (kN (I 96) len (tkE (I 96) len p)))) + (kN (I 96) len (tkE (I 96) len (tkE (I 96) len p)))) = -1) && decide (D 2 = nI 8)) (3, (tkB (I 96) len p))) (bdB (vN (I 96) len (tkE (I 96) len (tkE (I 96) len (tkE (I 96) len p)))) 0 9) (2, (tkB (I 96) len (tkE (I 96) len (tkE (I 96) len (tkE (I 96) len p)))))) gh gl (if D ((59 + (4 * (kN (I 96) len (tkE (I 96) len p)))) + (kN (I 96) len (tkE (I 96) len (tkE (I 96) len p)))) = -1 then (if nw < 8 then va_up (va_up D ((59 + (4 * (kN (I 96) len (tkE (I 96) len p)))) + (kN (I 96) len (tkE (I 96) len (tkE (I 96) len p)))) (nI (vN (I 96) len (tkE (I 96) len (tkE (I 96) len (tkE (I 96) len p)))))) 2 (nI (nw + 1)) else D) else va_up (va_up D ((59 + (4 * (kN (I 96) len (tkE (I 96) len p)))) + (kN (I 96) len (tkE (I 96) len (tkE (I 96) len p)))) (nI (vN (I 96) len (tkE (I 96) len (tkE (I 96) len (tkE (I 96) len p)))))) 2 (nI (nw + 0))))) (as := [.int (nI (tkB (I 96) len p))]) (st := []) dM_officeLine_140 ml12_212 rfl (Nat.le_of_ble_eq_true rfl) ly_95 rfl rfl (by decide) (by omega) (Nat.le_of_ble_eq_true rfl) rfl (Nat.le_refl _) (Nat.le_refl _) (r_law (F := (tkG (I 96) len (tkE (I 96) len p) F)) (D := D) (A := A) hn hR hl6 hby he.2 hS1 (at9 := (tkB (I 96) len p)) (by omega) (by omega) (fun z => Nat.lt_of_lt_of_le (hS.hlp z) hb.1) hD2 hw8) ?_
  intro v9 I9 J9 R9 hq9
  rcases hq9 with ⟨e3, ⟨e1, m1, ⟨w9, e2⟩, F9, D9, A9, h15, e4⟩ | ⟨e1, m1, e2, F9, A9, g9, hS9, e4⟩⟩
  · rw [e1, e2, e3, e4]
    show AW _ _ _ _ _ _ _ _ [.int 0] _ _ _ _
    refine a_goto (tgt := 150) dM_officeLine_143 (by decide) ?_
    exact a_zret dM_officeLine_150 rfl (by rfl) ⟨rfl, Or.inl ⟨rfl, m1, ⟨w9, rfl⟩, F9, D9, A9, h15, rfl⟩⟩
  · rw [e1, e2, e3, e4]
    show AW _ _ _ _ _ _ _ _ [.int 1] _ _ _ _
    refine a_goto (tgt := 150) dM_officeLine_143 (by decide) ?_
    exact a_zret dM_officeLine_150 rfl (by rfl) (by
          have m2 := mt11 m1
          obtain ⟨t0, t1, t2, _⟩ := m2
          exact ⟨rfl, Or.inr ⟨rfl, m1, rfl, F9, A9, g9, _, _, _, _, hS9, rr_3 he.2 t0 t1 t2 hc10 hw8 hD1 hD2 hRR, rfl⟩⟩)
theorem r_off4 {S : Nat × (Nat → Int32)} {d n : Nat} {I : mI} {J : mJ} {R : mR} (hn : 122 ≤ n) (hR : m_fin R) {len : Nat} (hl6 : len ≤ 600) (hby : byT (I 96) len) {p : Nat} (hp : p ≤ len) {x : Nat × Nat} {gh gl : Int32} {F D A : Nat → Int32} (hS : RS (I 96) len p x gh gl 1 F) {w wv : Int64} (hw0 : lg_cmp wv 114827921155443 = 0 ↔ iwT (I 96) len p 0) (hw1 : lg_cmp wv 1836019556 = 0 ↔ iwT (I 96) len p 1) (hw2 : lg_cmp wv 119183001281906 = 0 ↔ iwT (I 96) len p 2) (hw3 : lg_cmp wv 7102839 = 0 ↔ iwT (I 96) len p 3) (hw4 : lg_cmp wv 469920277619 = 0 ↔ iwT (I 96) len p 4) (y4 : iwT (I 96) len p 4) (n0 : ¬ iwT (I 96) len p 0) (n1 : ¬ iwT (I 96) len p 1) (n2 : ¬ iwT (I 96) len p 2) (n3 : ¬ iwT (I 96) len p 3) {st : TS} (hRR : RR 0 st x gh gl D) : AW S (d + 6) YM_officeLine n n (olq I J R len 4 0 p st) 0 [(0, .ref 95), (1, .long wv), (3, .int (nI (tkB (I 96) len p)))] [] (m_row (m_row (m_row I 95 F) 104 D) 105 A) (m_up J 95 14 w) R n := by
  have hb := tkB_le (T := I 96) hp
  have he := tkE_le (T := I 96) hp
  have hbe := tkE_lt (T := I 96) hp (tk_wd y4.1).1
  obtain ⟨c, nw, hc10, hw8, hD1, hD2⟩ := hRR.2.2.2.1 rfl
  refine a_lload_n 1 dM_officeLine_0 rfl rfl ?_
  refine a_ldc2 (v := 114827921155443) dM_officeLine_1 cn12_196 ?_
  refine a_lcmp dM_officeLine_4 ?_
  refine a_if_eq (tgt := 45) dM_officeLine_5 (by decide) (fun c => False.elim (n0 (hw0.mp c))) (fun _ => ?_)
  refine a_lload_n 1 dM_officeLine_8 rfl rfl ?_
  refine a_ldc2 (v := 1836019556) dM_officeLine_9 cn12_198 ?_
  refine a_lcmp dM_officeLine_12 ?_
  refine a_if_eq (tgt := 45) dM_officeLine_13 (by decide) (fun c => False.elim (n1 (hw1.mp c))) (fun _ => ?_)
  refine a_lload_n 1 dM_officeLine_16 rfl rfl ?_
  refine a_ldc2 (v := 119183001281906) dM_officeLine_17 cn12_200 ?_
  refine a_lcmp dM_officeLine_20 ?_
  refine a_if_eq (tgt := 45) dM_officeLine_21 (by decide) (fun c => False.elim (n2 (hw2.mp c))) (fun _ => ?_)
  refine a_lload_n 1 dM_officeLine_24 rfl rfl ?_
  refine a_ldc2 (v := 7102839) dM_officeLine_25 cn12_202 ?_
  refine a_lcmp dM_officeLine_28 ?_
  refine a_if_eq (tgt := 45) dM_officeLine_29 (by decide) (fun c => False.elim (n3 (hw3.mp c))) (fun _ => ?_)
  refine a_lload_n 1 dM_officeLine_32 rfl rfl ?_
  refine a_ldc2 (v := 469920277619) dM_officeLine_33 cn12_204 ?_
  refine a_lcmp dM_officeLine_36 ?_
  refine a_if_eq (tgt := 45) dM_officeLine_37 (by decide) (fun _ => ?_) (fun c => False.elim (c (hw4.mpr y4)))
  refine a_lload_n 1 dM_officeLine_45 rfl rfl ?_
  refine a_ldc2 (v := 119183001281906) dM_officeLine_46 cn12_200 ?_
  refine a_lcmp dM_officeLine_49 ?_
  refine a_if_ne (tgt := 61) dM_officeLine_50 (by decide) (fun _ => ?_) (fun c => False.elim (n2 (hw2.mp c)))
  refine a_aload_n 0 dM_officeLine_61 rfl rfl ?_
  refine a_callV (Q' := m_res none (mRd I (tkG (I 96) len (tkE (I 96) len p) F) D A) (m_up J 95 14 (tkW (I 96) len (tkE (I 96) len p))) R) (as := []) (st := []) dM_officeLine_62 ml12_154 rfl (Nat.le_of_ble_eq_true rfl) ly_95 rfl rfl (by decide) (by omega) (Nat.le_of_ble_eq_true rfl) rfl (Nat.le_refl _) (Nat.le_refl _) (c_tok (S := S) (d := d + 4) (n := n) (F := F) (D := D) (A := A) (w := w) hn hR hl6 hby he.2 hS.h9 hS.h10) (m_go ?_)
  show AW _ _ _ _ _ _ _ _ [] _ _ _ _
  refine a_lload_n 1 dM_officeLine_65 rfl rfl ?_
  refine a_ldc2 (v := 114827921155443) dM_officeLine_66 cn12_196 ?_
  refine a_lcmp dM_officeLine_69 ?_
  refine a_if_ne (tgt := 100) dM_officeLine_70 (by decide) (fun _ => ?_) (fun c => False.elim (n0 (hw0.mp c)))
  refine a_lload_n 1 dM_officeLine_100 rfl rfl ?_
  refine a_ldc2 (v := 1836019556) dM_officeLine_101 cn12_198 ?_
  refine a_lcmp dM_officeLine_104 ?_
  refine a_if_ne (tgt := 115) dM_officeLine_105 (by decide) (fun _ => ?_) (fun c => False.elim (n1 (hw1.mp c)))
  refine a_lload_n 1 dM_officeLine_115 rfl rfl ?_
  refine a_ldc2 (v := 119183001281906) dM_officeLine_116 cn12_200 ?_
  refine a_lcmp dM_officeLine_119 ?_
  refine a_if_ne (tgt := 130) dM_officeLine_120 (by decide) (fun _ => ?_) (fun c => False.elim (n2 (hw2.mp c)))
  refine a_lload_n 1 dM_officeLine_130 rfl rfl ?_
  refine a_ldc2 (v := 7102839) dM_officeLine_131 cn12_202 ?_
  refine a_lcmp dM_officeLine_134 ?_
  refine a_if_ne (tgt := 146) dM_officeLine_135 (by decide) (fun _ => ?_) (fun c => False.elim (n3 (hw3.mp c)))
  refine a_aload_n 0 dM_officeLine_146 rfl rfl ?_
  have hS1 : RS (I 96) len (tkE (I 96) len p) x gh gl 1 (tkG (I 96) len (tkE (I 96) len p) F) := (RS_tk hby he.2 hS.h10 hS.f5 hS.h16 hS.h17 (fun z => Nat.lt_of_lt_of_le (hS.hlp z) (Nat.le_trans hb.1 he.1)) hS.h20 hS.h21 hS.h22)
  refine a_callV (Q' := (lq I J R len [false, false, false] (tkE (I 96) len p) (s1 (s1 (s1 x (bdB (vN (I 96) len (tkE (I 96) len p)) 0 9 || decide (nI (vN (I 96) len (tkE (I 96) len p)) = -1)) (2, (tkB (I 96) len (tkE (I 96) len p)))) (bdB (vN (I 96) len (tkE (I 96) len (tkE (I 96) len p))) 0 9 || decide (nI (vN (I 96) len (tkE (I 96) len (tkE (I 96) len p))) = nI (vN (I 96) len (tkE (I 96) len p)))) (2, (tkB (I 96) len (tkE (I 96) len (tkE (I 96) len p))))) (bdB (vN (I 96) len (tkE (I 96) len (tkE (I 96) len (tkE (I 96) len p)))) 0 3) (2, (tkB (I 96) len (tkE (I 96) len (tkE (I 96) len (tkE (I 96) len p)))))) gh (mxI (mxI gl (vN (I 96) len (tkE (I 96) len p))) (vN (I 96) len (tkE (I 96) len (tkE (I 96) len p)))) (if ((bdB (vN (I 96) len (tkE (I 96) len p)) 0 9 || decide (nI (vN (I 96) len (tkE (I 96) len p)) = -1)) || (bdB (vN (I 96) len (tkE (I 96) len (tkE (I 96) len p))) 0 9 || decide (nI (vN (I 96) len (tkE (I 96) len (tkE (I 96) len p))) = nI (vN (I 96) len (tkE (I 96) len p)))) || (bdB (vN (I 96) len (tkE (I 96) len (tkE (I 96) len (tkE (I 96) len p)))) 0 3)) = true then D else va_up (va_up D (39 + (vN (I 96) len (tkE (I 96) len p))) (nI (vN (I 96) len (tkE (I 96) len (tkE (I 96) len p))))) (49 + (vN (I 96) len (tkE (I 96) len p))) (nI (vN (I 96) len (tkE (I 96) len (tkE (I 96) len (tkE (I 96) len p)))))))) (as := []) (st := []) dM_officeLine_147 ml12_215 rfl (Nat.le_of_ble_eq_true rfl) ly_95 rfl rfl (by decide) (by omega) (Nat.le_of_ble_eq_true rfl) rfl (Nat.le_refl _) (Nat.le_refl _) (r_minds (F := (tkG (I 96) len (tkE (I 96) len p) F)) (D := D) (A := A) hn hR hl6 hby he.2 hS1 ) ?_
  intro v9 I9 J9 R9 hq9
  rcases hq9 with ⟨e3, ⟨e1, m1, ⟨w9, e2⟩, F9, D9, A9, h15, e4⟩ | ⟨e1, m1, e2, F9, A9, g9, hS9, e4⟩⟩
  · rw [e1, e2, e3, e4]
    show AW _ _ _ _ _ _ _ _ [.int 0] _ _ _ _
    exact a_zret dM_officeLine_150 rfl (by rfl) ⟨rfl, Or.inl ⟨rfl, m1, ⟨w9, rfl⟩, F9, D9, A9, h15, rfl⟩⟩
  · rw [e1, e2, e3, e4]
    show AW _ _ _ _ _ _ _ _ [.int 1] _ _ _ _
    exact a_zret dM_officeLine_150 rfl (by rfl) (by
          have m2 := mt12 m1
          obtain ⟨t0, t1, t2, _⟩ := m2
          exact ⟨rfl, Or.inr ⟨rfl, m1, rfl, F9, A9, g9, _, _, _, _, hS9, rr_4 he.2 t0 t1 t2 hRR, rfl⟩⟩)
theorem r_offN {S : Nat × (Nat → Int32)} {d n : Nat} {I : mI} {J : mJ} {R : mR} (hn : 122 ≤ n) (hR : m_fin R) {len : Nat} (hl6 : len ≤ 600) (hby : byT (I 96) len) {p : Nat} (hp : p ≤ len) {x : Nat × Nat} {gh gl : Int32} {F D A : Nat → Int32} (hS : RS (I 96) len p x gh gl 1 F) {w wv : Int64} (hw0 : lg_cmp wv 114827921155443 = 0 ↔ iwT (I 96) len p 0) (hw1 : lg_cmp wv 1836019556 = 0 ↔ iwT (I 96) len p 1) (hw2 : lg_cmp wv 119183001281906 = 0 ↔ iwT (I 96) len p 2) (hw3 : lg_cmp wv 7102839 = 0 ↔ iwT (I 96) len p 3) (hw4 : lg_cmp wv 469920277619 = 0 ↔ iwT (I 96) len p 4) (n0 : ¬ iwT (I 96) len p 0) (n1 : ¬ iwT (I 96) len p 1) (n2 : ¬ iwT (I 96) len p 2) (n3 : ¬ iwT (I 96) len p 3) (n4 : ¬ iwT (I 96) len p 4) : AW S (d + 6) YM_officeLine n n (tq0 I J R (tkB (I 96) len p) D A) 0 [(0, .ref 95), (1, .long wv), (3, .int (nI (tkB (I 96) len p)))] [] (m_row (m_row (m_row I 95 F) 104 D) 105 A) (m_up J 95 14 w) R n := by
  refine a_lload_n 1 dM_officeLine_0 rfl rfl ?_
  refine a_ldc2 (v := 114827921155443) dM_officeLine_1 cn12_196 ?_
  refine a_lcmp dM_officeLine_4 ?_
  refine a_if_eq (tgt := 45) dM_officeLine_5 (by decide) (fun c => False.elim (n0 (hw0.mp c))) (fun _ => ?_)
  refine a_lload_n 1 dM_officeLine_8 rfl rfl ?_
  refine a_ldc2 (v := 1836019556) dM_officeLine_9 cn12_198 ?_
  refine a_lcmp dM_officeLine_12 ?_
  refine a_if_eq (tgt := 45) dM_officeLine_13 (by decide) (fun c => False.elim (n1 (hw1.mp c))) (fun _ => ?_)
  refine a_lload_n 1 dM_officeLine_16 rfl rfl ?_
  refine a_ldc2 (v := 119183001281906) dM_officeLine_17 cn12_200 ?_
  refine a_lcmp dM_officeLine_20 ?_
  refine a_if_eq (tgt := 45) dM_officeLine_21 (by decide) (fun c => False.elim (n2 (hw2.mp c))) (fun _ => ?_)
  refine a_lload_n 1 dM_officeLine_24 rfl rfl ?_
  refine a_ldc2 (v := 7102839) dM_officeLine_25 cn12_202 ?_
  refine a_lcmp dM_officeLine_28 ?_
  refine a_if_eq (tgt := 45) dM_officeLine_29 (by decide) (fun c => False.elim (n3 (hw3.mp c))) (fun _ => ?_)
  refine a_lload_n 1 dM_officeLine_32 rfl rfl ?_
  refine a_ldc2 (v := 469920277619) dM_officeLine_33 cn12_204 ?_
  refine a_lcmp dM_officeLine_36 ?_
  refine a_if_eq (tgt := 45) dM_officeLine_37 (by decide) (fun c => False.elim (n4 (hw4.mp c))) (fun _ => ?_)
  refine a_aload_n 0 dM_officeLine_40 rfl rfl ?_
  refine a_callV (Q' := m_res (some (.int 0)) (mRd I (va_up F 15 (F 11)) D A) (m_up J 95 14 w) R) (as := []) (st := []) dM_officeLine_41 ml12_142 rfl (Nat.le_of_ble_eq_true rfl) ly_95 rfl rfl (by decide) (by omega) (Nat.le_of_ble_eq_true rfl) rfl (Nat.le_refl _) (Nat.le_refl _) (c_fails hn hR) (m_go ?_)
  show AW _ _ _ _ _ _ _ _ [.int 0] _ _ _ _
  exact a_zret dM_officeLine_44 rfl (by rfl) ⟨rfl, ⟨_, rfl⟩, rfl, _, hS.h11, rfl⟩
