theorem RS_22 {T : Nat → Int32} {len p : Nat} {x : Nat × Nat} {gh gl g : Int32} {F : Nat → Int32} (hS : RS T len p x gh gl g F) : RS T len p x gh gl 1 (va_up F 22 (nI 1)) :=
  RS.mk hS.h9 hS.h10 hS.h11 hS.h12 hS.h13 hS.f5 hS.h16 hS.h17 hS.hlp hS.h20 hS.h21 rfl
theorem rd_0 {T : Nat → Int32} {len of r p : Nat} {st out : TS} (ho : rdA T len of (r + 1) p st = out) (hz : tkS T len p = 0) : out = finA len of st := by
  rw [← ho]; unfold rdA; rw [if_pos hz]
theorem rd_f {T : Nat → Int32} {len of r p q : Nat} {st out : TS} (ho : rdA T len of (r + 1) p st = out) (hz : ¬ tkS T len p = 0) (hq : (lA T len of p = -1 ∧ q = p) ∨ (¬ lA T len of p = -1 ∧ ¬ (msA T len of p).1 = true ∧ q = (msA T len of p).2)) : out.f = 1 ∧ out.pl = tkB T len q := by
  rw [← ho]; unfold rdA; rw [if_neg hz]
  rcases hq with ⟨q1, q2⟩ | ⟨q1, q2, q3⟩
  · rw [if_pos q1, q2]; exact ⟨rfl, rfl⟩
  · rw [if_neg q1, if_neg q2, q3]; exact ⟨rfl, rfl⟩
theorem rd_s {T : Nat → Int32} {len of r p : Nat} {st out : TS} (ho : rdA T len of (r + 1) p st = out) (hz : ¬ tkS T len p = 0) (h1 : ¬ lA T len of p = -1) (h2 : (msA T len of p).1 = true) : rdA T len of r (tkE T len (msA T len of p).2) (stA T len (lN9 T len of p) (tkB T len p) (tkE T len p) st) = out := by
  rw [← ho]
  show _ = (if tkS T len p = 0 then _ else _)
  rw [if_neg hz, if_neg h1, if_pos h2]
theorem msA_f {T : Nat → Int32} {len of p : Nat} (h : (ms0 T len (shA (lN9 T len of p)) (tkE T len p)).1 = false) : ¬ (msA T len of p).1 = true ∧ (msA T len of p).2 = (ms0 T len (shA (lN9 T len of p)) (tkE T len p)).2 := by
  have e := ms_ms0 (T := T) (len := len) (shA (lN9 T len of p)) (tkE T len p)
  rw [h, if_neg Bool.false_ne_true] at e
  rw [show msA T len of p = ms T len (shA (lN9 T len of p)) (tkE T len p) from rfl, e]
  exact ⟨Bool.false_ne_true, rfl⟩
theorem msA_t {T : Nat → Int32} {len of p : Nat} (h : (ms0 T len (shA (lN9 T len of p)) (tkE T len p)).1 = true) : msA T len of p = (decide (tkS T len (ms0 T len (shA (lN9 T len of p)) (tkE T len p)).2 = 3), (ms0 T len (shA (lN9 T len of p)) (tkE T len p)).2) := by
  have e := ms_ms0 (T := T) (len := len) (shA (lN9 T len of p)) (tkE T len p)
  rw [h, if_pos rfl] at e
  exact e
theorem l_lines {S : Nat × (Nat → Int32)} {d n : Nat} {I : mI} {J : mJ} {R : mR} (hn : 122 ≤ n) (hR : m_fin R) {len : Nat} (hl6 : len ≤ 600) (hby : byT (I 96) len) {of : Nat} (hof : of < 3) {out : TS} {Q : Option Value → mI → mJ → mR → Prop} (hQ0 : ∀ F' D' A' w, F' 15 = nI out.pl → out.f = 1 → Q (some (.int 0)) (mRd I F' D' A') (m_up J 95 14 w) R) (hQ1 : ∀ F' D' A' p x gh gl g st w, RS (I 96) len p x gh gl g F' → tkS (I 96) len p = 0 → p ≤ len → RR of st x gh gl D' → out = finA len of st → Q (some (.int 1)) (mRd I F' D' A') (m_up J 95 14 w) R) : ∀ r p F D A x gh gl g st, len + 1 ≤ p + r → p ≤ len → RS (I 96) len p x gh gl g F → RR of st x gh gl D → rdA (I 96) len of r p st = out → AW S (d + 7) YM_lines n n Q 2 [(2, .int (nI 1)), (0, .ref 95), (1, .int (nI of))] [] (m_row (m_row (m_row I 95 F) 104 D) 105 A) (m_up J 95 14 (tkW (I 96) len p)) R n := by
  intro r
  induction r with
  | zero => intro p F D A x gh gl g st h1 h2; exact absurd h1 (by omega)
  | succ r ih =>
    intro p F D A x gh gl g st h1 hp hS hRR ho
    have hb := tkB_le (T := I 96) hp
    have he := tkE_le (T := I 96) hp
    have hz4 := rsS_le (s := tkS (I 96) len p)
    have hS1 := RS_22 hS
    by_cases hz : tkS (I 96) len p = 0
    · have ez : rsS (tkS (I 96) len p) = 0 := rsS_0.mpr hz
      refine a_iload_n 0 dM_lines_2 rfl rfl ?_
      refine a_if_eq (tgt := 106) dM_lines_3 (by decide) (fun c => False.elim (absurd c (by decide))) (fun _ => ?_)
      refine a_aload_n 1 dM_lines_6 rfl rfl ?_
      refine a_geti dM_lines_7 fl12_127 rfl ly_95 (by omega) ?_
      rw [show (m_row (m_row (m_row I 95 F) 104 D) 105 A) 95 12 = (nI (rsS (tkS (I 96) len p))) from hS.h12]
      refine a_if_eq (tgt := 106) dM_lines_10 (by decide) (fun _ => ?_) (fun c => False.elim (c (by rw [ez]; rfl)))
      refine a_iload_n 0 dM_lines_106 rfl rfl ?_
      exact a_zret dM_lines_107 rfl (by rfl) (hQ1 F D A p x gh gl g st _ hS hz hp hRR (rd_0 ho hz))
    · have hz9 : ¬ rsS (tkS (I 96) len p) = 0 := fun q => hz (rsS_0.mp q)
      rcases (show of = 0 ∨ of = 1 ∨ of = 2 by omega) with o9 | o9 | o9
      · subst o9
        by_cases hs1 : tkS (I 96) len p = 1
        · have e2 : rsS (tkS (I 96) len p) = 2 := rsS_2.mpr hs1
          have hwv : wvP (I 96) len p (tkW (I 96) len p) := Or.inl ⟨hs1, rfl⟩
          refine a_iload_n 0 dM_lines_2 rfl rfl ?_
          refine a_if_eq (tgt := 106) dM_lines_3 (by decide) (fun c => False.elim (absurd c (by decide))) (fun _ => ?_)
          refine a_aload_n 1 dM_lines_6 rfl rfl ?_
          refine a_geti dM_lines_7 fl12_127 rfl ly_95 (by omega) ?_
          rw [show (m_row (m_row (m_row I 95 F) 104 D) 105 A) 95 12 = (nI (rsS (tkS (I 96) len p))) from hS.h12]
          refine a_if_eq (tgt := 106) dM_lines_10 (by decide) (fun c => False.elim (hz9 ((nI_eq (by omega) (by decide)).mp c))) (fun _ => ?_)
          refine a_aload_n 1 dM_lines_13 rfl rfl ?_
          refine a_geti dM_lines_14 fl12_120 rfl ly_95 (by omega) ?_
          rw [show (m_row (m_row (m_row I 95 F) 104 D) 105 A) 95 11 = (nI (tkB (I 96) len p)) from hS.h11]
          refine a_istore_n (lv' := [(3, .int (nI (tkB (I 96) len p))), (2, .int (nI 1)), (0, .ref 95), (1, .int (nI 0))]) dM_lines_17 rfl (by decide) rfl ?_
          refine a_aload_n 2 dM_lines_18 rfl rfl ?_
          refine a_geti dM_lines_19 fl12_127 rfl ly_95 (by omega) ?_
          rw [show (m_row (m_row (m_row I 95 F) 104 D) 105 A) 95 12 = (nI (rsS (tkS (I 96) len p))) from hS.h12]
          refine a_iconstN (a := 2) dM_lines_22 (by decide) ?_
          refine a_icmp_neN (tgt := 33) dM_lines_23 (by decide) (by omega) (by omega) (fun c => False.elim (by omega)) (fun _ => ?_)
          refine a_aload_n 2 dM_lines_26 rfl rfl ?_
          refine a_getl dM_lines_27 fl12_123 rfl ly_95 (by omega) ?_
          rw [show (m_up J 95 14 (tkW (I 96) len p)) 95 14 = (tkW (I 96) len p) from by rfl]
          refine a_goto (tgt := 34) dM_lines_30 (by decide) ?_
          refine a_lstore (lv' := [(4, .long (tkW (I 96) len p)), (3, .int (nI (tkB (I 96) len p))), (2, .int (nI 1)), (0, .ref 95), (1, .int (nI 0))]) dM_lines_34 (by decide) rfl ?_
          refine a_aload_n 3 dM_lines_36 rfl rfl ?_
          refine a_iconstN (a := 1) dM_lines_37 (by decide) ?_
          refine a_putz dM_lines_38 fl12_150 rfl (by decide) ly_95 (by omega) ?_
          rw [show m_up (m_row (m_row (m_row I 95 F) 104 D) 105 A) 95 22 (nI 1) = (m_row (m_row (m_row I 95 (va_up F 22 (nI 1))) 104 D) 105 A) from (by rw [m_up_comm (by decide), m_up_comm (by decide), m_up_r])]
          refine a_iload_n 4 dM_lines_41 rfl rfl ?_
          refine a_if_ne (tgt := 55) dM_lines_42 (by decide) (fun c => False.elim (c rfl)) (fun _ => ?_)
          refine a_aload_n 3 dM_lines_45 rfl rfl ?_
          refine a_lload 0 dM_lines_46 rfl ?_
          refine a_iload_n 1 dM_lines_48 rfl rfl ?_
          refine a_callV (Q' := lnQ I J R len 0 p st) (as := [.long (tkW (I 96) len p), .int (nI (tkB (I 96) len p))]) (st := []) dM_lines_49 ml12_229 rfl (Nat.le_of_ble_eq_true rfl) ly_95 rfl rfl (by decide) (by omega) (Nat.le_of_ble_eq_true rfl) rfl (Nat.le_refl _) (Nat.le_refl _) (r_oL (x := x) (F := va_up F 22 (nI 1)) (D := D) (A := A) (w := tkW (I 96) len p) (wv := (tkW (I 96) len p)) hn hR hl6 hby hp hS1 hwv hRR) ?_
          intro v9 I9 J9 R9 hq9
          rcases hq9 with ⟨e3, ⟨e1, ⟨w9, e5⟩, q, F9, D9, A9, h15, hq, e4⟩ | ⟨e1, hl1, hm1, e5, F9, A9, g9, D9, gh9, gl9, x9, hS9, hR9, e4⟩⟩
          · rw [e1, e5, e3, e4]
            show AW _ _ _ _ _ _ _ _ [.int 0] (m_row (m_row (m_row I 95 F9) 104 D9) 105 A9) _ _ _
            have hof2 := rd_f ho hz (q := q) (by
              rcases hq with h | ⟨h1, h2, h3⟩
              · exact Or.inl h
              · exact Or.inr ⟨h1, (msA_f h2).1, h3.trans (msA_f h2).2.symm⟩)
            refine a_goto (tgt := 77) dM_lines_52 (by decide) ?_
            refine a_istore_n (lv' := [(2, .int 0), (4, .long (tkW (I 96) len p)), (3, .int (nI (tkB (I 96) len p))), (0, .ref 95), (1, .int (nI 0))]) dM_lines_77 rfl (by decide) rfl ?_
            refine a_iload_n 0 dM_lines_78 rfl rfl ?_
            refine a_if_eq (tgt := 95) dM_lines_79 (by decide) (fun _ => ?_) (fun c => False.elim (c rfl))
            refine a_iload_n 0 dM_lines_95 rfl rfl ?_
            refine a_if_eq (tgt := 103) dM_lines_96 (by decide) (fun _ => ?_) (fun c => False.elim (c rfl))
            refine a_goto (tgt := 2) dM_lines_103 (by decide) ?_
            refine a_iload_n 0 dM_lines_2 rfl rfl ?_
            refine a_if_eq (tgt := 106) dM_lines_3 (by decide) (fun _ => ?_) (fun c => False.elim (c rfl))
            refine a_iload_n 0 dM_lines_106 rfl rfl ?_
            exact a_zret dM_lines_107 rfl (by rfl) (hQ0 F9 D9 A9 _ (by rw [hof2.2]; exact h15) hof2.1)
          · rw [e1, e5, e3, e4]
            show AW _ _ _ _ _ _ _ _ [.int 1] (m_row (m_row (m_row I 95 F9) 104 D9) 105 A9) _ _ _
            have ml := ms0_le (T := I 96) (shA (lN9 (I 96) len 0 p)) he.2
            have m9 := msA_t hm1
            have r9 := rsS_le (s := tkS (I 96) len (ms0 (I 96) len (shA (lN9 (I 96) len 0 p)) (tkE (I 96) len p)).2)
            have bq := tkB_le (T := I 96) ml.2
            have eq := tkE_le (T := I 96) ml.2
            by_cases hst : tkS (I 96) len (ms0 (I 96) len (shA (lN9 (I 96) len 0 p)) (tkE (I 96) len p)).2 = 3
            · have e4' : rsS (tkS (I 96) len (ms0 (I 96) len (shA (lN9 (I 96) len 0 p)) (tkE (I 96) len p)).2) = 4 := rsS_4.mpr hst
              refine a_goto (tgt := 77) dM_lines_52 (by decide) ?_
              refine a_istore_n (lv' := [(2, .int 1), (4, .long (tkW (I 96) len p)), (3, .int (nI (tkB (I 96) len p))), (0, .ref 95), (1, .int (nI 0))]) dM_lines_77 rfl (by decide) rfl ?_
              refine a_iload_n 0 dM_lines_78 rfl rfl ?_
              refine a_if_eq (tgt := 95) dM_lines_79 (by decide) (fun c => False.elim (absurd c (by decide))) (fun _ => ?_)
              refine a_aload_n 3 dM_lines_82 rfl rfl ?_
              refine a_geti dM_lines_83 fl12_127 rfl ly_95 (by omega) ?_
              rw [show (m_row (m_row (m_row I 95 F9) 104 D9) 105 A9) 95 12 = (nI (rsS (tkS (I 96) len (ms0 (I 96) len (shA (lN9 (I 96) len 0 p)) (tkE (I 96) len p)).2))) from hS9.h12]
              refine a_iconstN (a := 4) dM_lines_86 (by decide) ?_
              refine a_icmp_eqN (tgt := 95) dM_lines_87 (by decide) (by omega) (by omega) (fun _ => ?_) (fun c => False.elim (by omega))
              refine a_iload_n 0 dM_lines_95 rfl rfl ?_
              refine a_if_eq (tgt := 103) dM_lines_96 (by decide) (fun c => False.elim (absurd c (by decide))) (fun _ => ?_)
              refine a_aload_n 3 dM_lines_99 rfl rfl ?_
              refine a_callV (Q' := m_res none (mRd I (tkG (I 96) len (tkE (I 96) len (ms0 (I 96) len (shA (lN9 (I 96) len 0 p)) (tkE (I 96) len p)).2) F9) D9 A9) (m_up J 95 14 (tkW (I 96) len (tkE (I 96) len (ms0 (I 96) len (shA (lN9 (I 96) len 0 p)) (tkE (I 96) len p)).2))) R) (as := []) (st := []) dM_lines_100 ml12_154 rfl (Nat.le_of_ble_eq_true rfl) ly_95 rfl rfl (by decide) (by omega) (Nat.le_of_ble_eq_true rfl) rfl (Nat.le_refl _) (Nat.le_refl _) (c_tok (S := S) (d := d + 5) (n := n) (F := F9) (D := D9) (A := A9) (w := tkW (I 96) len (ms0 (I 96) len (shA (lN9 (I 96) len 0 p)) (tkE (I 96) len p)).2) hn hR hl6 hby eq.2 hS9.h9 hS9.h10) (m_go ?_)
              show AW _ _ _ _ _ _ _ _ [] _ _ _ _
              refine a_goto (tgt := 2) dM_lines_103 (by decide) ?_
              refine a_locs (lv' := [(2, .int (nI 1)), (0, .ref 95), (1, .int (nI 0))]) [0, 3, 4] rfl ?_
              have ht9 : (msA (I 96) len 0 p).1 = true := by rw [m9]; exact decide_eq_true hst
              have hs9 := rd_s ho hz hl1 ht9
              rw [m9] at hs9
              have hon := tk_on hp hz
              exact ih (tkE (I 96) len (ms0 (I 96) len (shA (lN9 (I 96) len 0 p)) (tkE (I 96) len p)).2) (tkG (I 96) len (tkE (I 96) len (ms0 (I 96) len (shA (lN9 (I 96) len 0 p)) (tkE (I 96) len p)).2) F9) D9 A9 x9 gh9 gl9 g9 _ (by omega) eq.2 (RS_tk hby eq.2 hS9.h10 hS9.f5 hS9.h16 hS9.h17 (fun z => Nat.lt_of_lt_of_le (hS9.hlp z) (by omega)) hS9.h20 hS9.h21 hS9.h22) hR9 hs9
            · have e4' : ¬ rsS (tkS (I 96) len (ms0 (I 96) len (shA (lN9 (I 96) len 0 p)) (tkE (I 96) len p)).2) = 4 := fun q => hst (rsS_4.mp q)
              have hof2 := rd_f ho hz (q := (ms0 (I 96) len (shA (lN9 (I 96) len 0 p)) (tkE (I 96) len p)).2) (Or.inr ⟨hl1, by rw [m9, decide_eq_false hst]; exact Bool.false_ne_true, by rw [m9]⟩)
              refine a_goto (tgt := 77) dM_lines_52 (by decide) ?_
              refine a_istore_n (lv' := [(2, .int 1), (4, .long (tkW (I 96) len p)), (3, .int (nI (tkB (I 96) len p))), (0, .ref 95), (1, .int (nI 0))]) dM_lines_77 rfl (by decide) rfl ?_
              refine a_iload_n 0 dM_lines_78 rfl rfl ?_
              refine a_if_eq (tgt := 95) dM_lines_79 (by decide) (fun c => False.elim (absurd c (by decide))) (fun _ => ?_)
              refine a_aload_n 3 dM_lines_82 rfl rfl ?_
              refine a_geti dM_lines_83 fl12_127 rfl ly_95 (by omega) ?_
              rw [show (m_row (m_row (m_row I 95 F9) 104 D9) 105 A9) 95 12 = (nI (rsS (tkS (I 96) len (ms0 (I 96) len (shA (lN9 (I 96) len 0 p)) (tkE (I 96) len p)).2))) from hS9.h12]
              refine a_iconstN (a := 4) dM_lines_86 (by decide) ?_
              refine a_icmp_eqN (tgt := 95) dM_lines_87 (by decide) (by omega) (by omega) (fun c => False.elim (by omega)) (fun _ => ?_)
              refine a_aload_n 3 dM_lines_90 rfl rfl ?_
              refine a_callV (Q' := m_res (some (.int 0)) (mRd I (va_up F9 15 (F9 11)) D9 A9) (m_up J 95 14 (tkW (I 96) len (ms0 (I 96) len (shA (lN9 (I 96) len 0 p)) (tkE (I 96) len p)).2)) R) (as := []) (st := []) dM_lines_91 ml12_142 rfl (Nat.le_of_ble_eq_true rfl) ly_95 rfl rfl (by decide) (by omega) (Nat.le_of_ble_eq_true rfl) rfl (Nat.le_refl _) (Nat.le_refl _) (c_fails hn hR) (m_go ?_)
              show AW _ _ _ _ _ _ _ _ [.int 0] _ _ _ _
              refine a_istore_n (lv' := [(2, .int 0), (4, .long (tkW (I 96) len p)), (3, .int (nI (tkB (I 96) len p))), (0, .ref 95), (1, .int (nI 0))]) dM_lines_94 rfl (by decide) rfl ?_
              refine a_iload_n 0 dM_lines_95 rfl rfl ?_
              refine a_if_eq (tgt := 103) dM_lines_96 (by decide) (fun _ => ?_) (fun c => False.elim (c rfl))
              refine a_goto (tgt := 2) dM_lines_103 (by decide) ?_
              refine a_iload_n 0 dM_lines_2 rfl rfl ?_
              refine a_if_eq (tgt := 106) dM_lines_3 (by decide) (fun _ => ?_) (fun c => False.elim (c rfl))
              refine a_iload_n 0 dM_lines_106 rfl rfl ?_
              exact a_zret dM_lines_107 rfl (by rfl) (hQ0 (va_up F9 15 (F9 11)) D9 A9 _ (by rw [hof2.2]; exact hS9.h11) hof2.1)
        · have e2 : ¬ rsS (tkS (I 96) len p) = 2 := fun q => hs1 (rsS_2.mp q)
          have hwv : wvP (I 96) len p 0 := Or.inr ⟨hs1, rfl⟩
          refine a_iload_n 0 dM_lines_2 rfl rfl ?_
          refine a_if_eq (tgt := 106) dM_lines_3 (by decide) (fun c => False.elim (absurd c (by decide))) (fun _ => ?_)
          refine a_aload_n 1 dM_lines_6 rfl rfl ?_
          refine a_geti dM_lines_7 fl12_127 rfl ly_95 (by omega) ?_
          rw [show (m_row (m_row (m_row I 95 F) 104 D) 105 A) 95 12 = (nI (rsS (tkS (I 96) len p))) from hS.h12]
          refine a_if_eq (tgt := 106) dM_lines_10 (by decide) (fun c => False.elim (hz9 ((nI_eq (by omega) (by decide)).mp c))) (fun _ => ?_)
          refine a_aload_n 1 dM_lines_13 rfl rfl ?_
          refine a_geti dM_lines_14 fl12_120 rfl ly_95 (by omega) ?_
          rw [show (m_row (m_row (m_row I 95 F) 104 D) 105 A) 95 11 = (nI (tkB (I 96) len p)) from hS.h11]
          refine a_istore_n (lv' := [(3, .int (nI (tkB (I 96) len p))), (2, .int (nI 1)), (0, .ref 95), (1, .int (nI 0))]) dM_lines_17 rfl (by decide) rfl ?_
          refine a_aload_n 2 dM_lines_18 rfl rfl ?_
          refine a_geti dM_lines_19 fl12_127 rfl ly_95 (by omega) ?_
          rw [show (m_row (m_row (m_row I 95 F) 104 D) 105 A) 95 12 = (nI (rsS (tkS (I 96) len p))) from hS.h12]
          refine a_iconstN (a := 2) dM_lines_22 (by decide) ?_
          refine a_icmp_neN (tgt := 33) dM_lines_23 (by decide) (by omega) (by omega) (fun _ => ?_) (fun c => False.elim (by omega))
          refine a_lconst (v := 0) dM_lines_33 (by decide) ?_
          refine a_lstore (lv' := [(4, .long 0), (3, .int (nI (tkB (I 96) len p))), (2, .int (nI 1)), (0, .ref 95), (1, .int (nI 0))]) dM_lines_34 (by decide) rfl ?_
          refine a_aload_n 3 dM_lines_36 rfl rfl ?_
          refine a_iconstN (a := 1) dM_lines_37 (by decide) ?_
          refine a_putz dM_lines_38 fl12_150 rfl (by decide) ly_95 (by omega) ?_
          rw [show m_up (m_row (m_row (m_row I 95 F) 104 D) 105 A) 95 22 (nI 1) = (m_row (m_row (m_row I 95 (va_up F 22 (nI 1))) 104 D) 105 A) from (by rw [m_up_comm (by decide), m_up_comm (by decide), m_up_r])]
          refine a_iload_n 4 dM_lines_41 rfl rfl ?_
          refine a_if_ne (tgt := 55) dM_lines_42 (by decide) (fun c => False.elim (c rfl)) (fun _ => ?_)
          refine a_aload_n 3 dM_lines_45 rfl rfl ?_
          refine a_lload 0 dM_lines_46 rfl ?_
          refine a_iload_n 1 dM_lines_48 rfl rfl ?_
          refine a_callV (Q' := lnQ I J R len 0 p st) (as := [.long 0, .int (nI (tkB (I 96) len p))]) (st := []) dM_lines_49 ml12_229 rfl (Nat.le_of_ble_eq_true rfl) ly_95 rfl rfl (by decide) (by omega) (Nat.le_of_ble_eq_true rfl) rfl (Nat.le_refl _) (Nat.le_refl _) (r_oL (x := x) (F := va_up F 22 (nI 1)) (D := D) (A := A) (w := tkW (I 96) len p) (wv := 0) hn hR hl6 hby hp hS1 hwv hRR) ?_
          intro v9 I9 J9 R9 hq9
          rcases hq9 with ⟨e3, ⟨e1, ⟨w9, e5⟩, q, F9, D9, A9, h15, hq, e4⟩ | ⟨e1, hl1, hm1, e5, F9, A9, g9, D9, gh9, gl9, x9, hS9, hR9, e4⟩⟩
          · rw [e1, e5, e3, e4]
            show AW _ _ _ _ _ _ _ _ [.int 0] (m_row (m_row (m_row I 95 F9) 104 D9) 105 A9) _ _ _
            have hof2 := rd_f ho hz (q := q) (by
              rcases hq with h | ⟨h1, h2, h3⟩
              · exact Or.inl h
              · exact Or.inr ⟨h1, (msA_f h2).1, h3.trans (msA_f h2).2.symm⟩)
            refine a_goto (tgt := 77) dM_lines_52 (by decide) ?_
            refine a_istore_n (lv' := [(2, .int 0), (4, .long 0), (3, .int (nI (tkB (I 96) len p))), (0, .ref 95), (1, .int (nI 0))]) dM_lines_77 rfl (by decide) rfl ?_
            refine a_iload_n 0 dM_lines_78 rfl rfl ?_
            refine a_if_eq (tgt := 95) dM_lines_79 (by decide) (fun _ => ?_) (fun c => False.elim (c rfl))
            refine a_iload_n 0 dM_lines_95 rfl rfl ?_
            refine a_if_eq (tgt := 103) dM_lines_96 (by decide) (fun _ => ?_) (fun c => False.elim (c rfl))
            refine a_goto (tgt := 2) dM_lines_103 (by decide) ?_
            refine a_iload_n 0 dM_lines_2 rfl rfl ?_
            refine a_if_eq (tgt := 106) dM_lines_3 (by decide) (fun _ => ?_) (fun c => False.elim (c rfl))
            refine a_iload_n 0 dM_lines_106 rfl rfl ?_
            exact a_zret dM_lines_107 rfl (by rfl) (hQ0 F9 D9 A9 _ (by rw [hof2.2]; exact h15) hof2.1)
          · rw [e1, e5, e3, e4]
            show AW _ _ _ _ _ _ _ _ [.int 1] (m_row (m_row (m_row I 95 F9) 104 D9) 105 A9) _ _ _
            have ml := ms0_le (T := I 96) (shA (lN9 (I 96) len 0 p)) he.2
            have m9 := msA_t hm1
            have r9 := rsS_le (s := tkS (I 96) len (ms0 (I 96) len (shA (lN9 (I 96) len 0 p)) (tkE (I 96) len p)).2)
            have bq := tkB_le (T := I 96) ml.2
            have eq := tkE_le (T := I 96) ml.2
            by_cases hst : tkS (I 96) len (ms0 (I 96) len (shA (lN9 (I 96) len 0 p)) (tkE (I 96) len p)).2 = 3
            · have e4' : rsS (tkS (I 96) len (ms0 (I 96) len (shA (lN9 (I 96) len 0 p)) (tkE (I 96) len p)).2) = 4 := rsS_4.mpr hst
              refine a_goto (tgt := 77) dM_lines_52 (by decide) ?_
              refine a_istore_n (lv' := [(2, .int 1), (4, .long 0), (3, .int (nI (tkB (I 96) len p))), (0, .ref 95), (1, .int (nI 0))]) dM_lines_77 rfl (by decide) rfl ?_
              refine a_iload_n 0 dM_lines_78 rfl rfl ?_
              refine a_if_eq (tgt := 95) dM_lines_79 (by decide) (fun c => False.elim (absurd c (by decide))) (fun _ => ?_)
              refine a_aload_n 3 dM_lines_82 rfl rfl ?_
              refine a_geti dM_lines_83 fl12_127 rfl ly_95 (by omega) ?_
              rw [show (m_row (m_row (m_row I 95 F9) 104 D9) 105 A9) 95 12 = (nI (rsS (tkS (I 96) len (ms0 (I 96) len (shA (lN9 (I 96) len 0 p)) (tkE (I 96) len p)).2))) from hS9.h12]
              refine a_iconstN (a := 4) dM_lines_86 (by decide) ?_
              refine a_icmp_eqN (tgt := 95) dM_lines_87 (by decide) (by omega) (by omega) (fun _ => ?_) (fun c => False.elim (by omega))
              refine a_iload_n 0 dM_lines_95 rfl rfl ?_
              refine a_if_eq (tgt := 103) dM_lines_96 (by decide) (fun c => False.elim (absurd c (by decide))) (fun _ => ?_)
              refine a_aload_n 3 dM_lines_99 rfl rfl ?_
              refine a_callV (Q' := m_res none (mRd I (tkG (I 96) len (tkE (I 96) len (ms0 (I 96) len (shA (lN9 (I 96) len 0 p)) (tkE (I 96) len p)).2) F9) D9 A9) (m_up J 95 14 (tkW (I 96) len (tkE (I 96) len (ms0 (I 96) len (shA (lN9 (I 96) len 0 p)) (tkE (I 96) len p)).2))) R) (as := []) (st := []) dM_lines_100 ml12_154 rfl (Nat.le_of_ble_eq_true rfl) ly_95 rfl rfl (by decide) (by omega) (Nat.le_of_ble_eq_true rfl) rfl (Nat.le_refl _) (Nat.le_refl _) (c_tok (S := S) (d := d + 5) (n := n) (F := F9) (D := D9) (A := A9) (w := tkW (I 96) len (ms0 (I 96) len (shA (lN9 (I 96) len 0 p)) (tkE (I 96) len p)).2) hn hR hl6 hby eq.2 hS9.h9 hS9.h10) (m_go ?_)
              show AW _ _ _ _ _ _ _ _ [] _ _ _ _
              refine a_goto (tgt := 2) dM_lines_103 (by decide) ?_
              refine a_locs (lv' := [(2, .int (nI 1)), (0, .ref 95), (1, .int (nI 0))]) [0, 3, 4] rfl ?_
              have ht9 : (msA (I 96) len 0 p).1 = true := by rw [m9]; exact decide_eq_true hst
              have hs9 := rd_s ho hz hl1 ht9
              rw [m9] at hs9
              have hon := tk_on hp hz
              exact ih (tkE (I 96) len (ms0 (I 96) len (shA (lN9 (I 96) len 0 p)) (tkE (I 96) len p)).2) (tkG (I 96) len (tkE (I 96) len (ms0 (I 96) len (shA (lN9 (I 96) len 0 p)) (tkE (I 96) len p)).2) F9) D9 A9 x9 gh9 gl9 g9 _ (by omega) eq.2 (RS_tk hby eq.2 hS9.h10 hS9.f5 hS9.h16 hS9.h17 (fun z => Nat.lt_of_lt_of_le (hS9.hlp z) (by omega)) hS9.h20 hS9.h21 hS9.h22) hR9 hs9
            · have e4' : ¬ rsS (tkS (I 96) len (ms0 (I 96) len (shA (lN9 (I 96) len 0 p)) (tkE (I 96) len p)).2) = 4 := fun q => hst (rsS_4.mp q)
              have hof2 := rd_f ho hz (q := (ms0 (I 96) len (shA (lN9 (I 96) len 0 p)) (tkE (I 96) len p)).2) (Or.inr ⟨hl1, by rw [m9, decide_eq_false hst]; exact Bool.false_ne_true, by rw [m9]⟩)
              refine a_goto (tgt := 77) dM_lines_52 (by decide) ?_
              refine a_istore_n (lv' := [(2, .int 1), (4, .long 0), (3, .int (nI (tkB (I 96) len p))), (0, .ref 95), (1, .int (nI 0))]) dM_lines_77 rfl (by decide) rfl ?_
              refine a_iload_n 0 dM_lines_78 rfl rfl ?_
              refine a_if_eq (tgt := 95) dM_lines_79 (by decide) (fun c => False.elim (absurd c (by decide))) (fun _ => ?_)
              refine a_aload_n 3 dM_lines_82 rfl rfl ?_
              refine a_geti dM_lines_83 fl12_127 rfl ly_95 (by omega) ?_
              rw [show (m_row (m_row (m_row I 95 F9) 104 D9) 105 A9) 95 12 = (nI (rsS (tkS (I 96) len (ms0 (I 96) len (shA (lN9 (I 96) len 0 p)) (tkE (I 96) len p)).2))) from hS9.h12]
              refine a_iconstN (a := 4) dM_lines_86 (by decide) ?_
              refine a_icmp_eqN (tgt := 95) dM_lines_87 (by decide) (by omega) (by omega) (fun c => False.elim (by omega)) (fun _ => ?_)
              refine a_aload_n 3 dM_lines_90 rfl rfl ?_
              refine a_callV (Q' := m_res (some (.int 0)) (mRd I (va_up F9 15 (F9 11)) D9 A9) (m_up J 95 14 (tkW (I 96) len (ms0 (I 96) len (shA (lN9 (I 96) len 0 p)) (tkE (I 96) len p)).2)) R) (as := []) (st := []) dM_lines_91 ml12_142 rfl (Nat.le_of_ble_eq_true rfl) ly_95 rfl rfl (by decide) (by omega) (Nat.le_of_ble_eq_true rfl) rfl (Nat.le_refl _) (Nat.le_refl _) (c_fails hn hR) (m_go ?_)
              show AW _ _ _ _ _ _ _ _ [.int 0] _ _ _ _
              refine a_istore_n (lv' := [(2, .int 0), (4, .long 0), (3, .int (nI (tkB (I 96) len p))), (0, .ref 95), (1, .int (nI 0))]) dM_lines_94 rfl (by decide) rfl ?_
              refine a_iload_n 0 dM_lines_95 rfl rfl ?_
              refine a_if_eq (tgt := 103) dM_lines_96 (by decide) (fun _ => ?_) (fun c => False.elim (c rfl))
              refine a_goto (tgt := 2) dM_lines_103 (by decide) ?_
              refine a_iload_n 0 dM_lines_2 rfl rfl ?_
              refine a_if_eq (tgt := 106) dM_lines_3 (by decide) (fun _ => ?_) (fun c => False.elim (c rfl))
              refine a_iload_n 0 dM_lines_106 rfl rfl ?_
              exact a_zret dM_lines_107 rfl (by rfl) (hQ0 (va_up F9 15 (F9 11)) D9 A9 _ (by rw [hof2.2]; exact hS9.h11) hof2.1)
      · subst o9
        by_cases hs1 : tkS (I 96) len p = 1
        · have e2 : rsS (tkS (I 96) len p) = 2 := rsS_2.mpr hs1
          have hwv : wvP (I 96) len p (tkW (I 96) len p) := Or.inl ⟨hs1, rfl⟩
          refine a_iload_n 0 dM_lines_2 rfl rfl ?_
          refine a_if_eq (tgt := 106) dM_lines_3 (by decide) (fun c => False.elim (absurd c (by decide))) (fun _ => ?_)
          refine a_aload_n 1 dM_lines_6 rfl rfl ?_
          refine a_geti dM_lines_7 fl12_127 rfl ly_95 (by omega) ?_
          rw [show (m_row (m_row (m_row I 95 F) 104 D) 105 A) 95 12 = (nI (rsS (tkS (I 96) len p))) from hS.h12]
          refine a_if_eq (tgt := 106) dM_lines_10 (by decide) (fun c => False.elim (hz9 ((nI_eq (by omega) (by decide)).mp c))) (fun _ => ?_)
          refine a_aload_n 1 dM_lines_13 rfl rfl ?_
          refine a_geti dM_lines_14 fl12_120 rfl ly_95 (by omega) ?_
          rw [show (m_row (m_row (m_row I 95 F) 104 D) 105 A) 95 11 = (nI (tkB (I 96) len p)) from hS.h11]
          refine a_istore_n (lv' := [(3, .int (nI (tkB (I 96) len p))), (2, .int (nI 1)), (0, .ref 95), (1, .int (nI 1))]) dM_lines_17 rfl (by decide) rfl ?_
          refine a_aload_n 2 dM_lines_18 rfl rfl ?_
          refine a_geti dM_lines_19 fl12_127 rfl ly_95 (by omega) ?_
          rw [show (m_row (m_row (m_row I 95 F) 104 D) 105 A) 95 12 = (nI (rsS (tkS (I 96) len p))) from hS.h12]
          refine a_iconstN (a := 2) dM_lines_22 (by decide) ?_
          refine a_icmp_neN (tgt := 33) dM_lines_23 (by decide) (by omega) (by omega) (fun c => False.elim (by omega)) (fun _ => ?_)
          refine a_aload_n 2 dM_lines_26 rfl rfl ?_
          refine a_getl dM_lines_27 fl12_123 rfl ly_95 (by omega) ?_
          rw [show (m_up J 95 14 (tkW (I 96) len p)) 95 14 = (tkW (I 96) len p) from by rfl]
          refine a_goto (tgt := 34) dM_lines_30 (by decide) ?_
          refine a_lstore (lv' := [(4, .long (tkW (I 96) len p)), (3, .int (nI (tkB (I 96) len p))), (2, .int (nI 1)), (0, .ref 95), (1, .int (nI 1))]) dM_lines_34 (by decide) rfl ?_
          refine a_aload_n 3 dM_lines_36 rfl rfl ?_
          refine a_iconstN (a := 1) dM_lines_37 (by decide) ?_
          refine a_putz dM_lines_38 fl12_150 rfl (by decide) ly_95 (by omega) ?_
          rw [show m_up (m_row (m_row (m_row I 95 F) 104 D) 105 A) 95 22 (nI 1) = (m_row (m_row (m_row I 95 (va_up F 22 (nI 1))) 104 D) 105 A) from (by rw [m_up_comm (by decide), m_up_comm (by decide), m_up_r])]
          refine a_iload_n 4 dM_lines_41 rfl rfl ?_
          refine a_if_ne (tgt := 55) dM_lines_42 (by decide) (fun _ => ?_) (fun c => False.elim (absurd c (by decide)))
          refine a_iload_n 4 dM_lines_55 rfl rfl ?_
          refine a_iconstN (a := 1) dM_lines_56 (by decide) ?_
          refine a_icmp_neN (tgt := 70) dM_lines_57 (by decide) (by omega) (by omega) (fun c => False.elim (by omega)) (fun _ => ?_)
          refine a_aload_n 3 dM_lines_60 rfl rfl ?_
          refine a_lload 0 dM_lines_61 rfl ?_
          refine a_iload_n 1 dM_lines_63 rfl rfl ?_
          refine a_callV (Q' := lnQ I J R len 1 p st) (as := [.long (tkW (I 96) len p), .int (nI (tkB (I 96) len p))]) (st := []) dM_lines_64 ml12_233 rfl (Nat.le_of_ble_eq_true rfl) ly_95 rfl rfl (by decide) (by omega) (Nat.le_of_ble_eq_true rfl) rfl (Nat.le_refl _) (Nat.le_refl _) (r_wL (x := x) (F := va_up F 22 (nI 1)) (D := D) (A := A) (w := tkW (I 96) len p) (wv := (tkW (I 96) len p)) hn hR hl6 hby hp hS1 hwv hRR) ?_
          intro v9 I9 J9 R9 hq9
          rcases hq9 with ⟨e3, ⟨e1, ⟨w9, e5⟩, q, F9, D9, A9, h15, hq, e4⟩ | ⟨e1, hl1, hm1, e5, F9, A9, g9, D9, gh9, gl9, x9, hS9, hR9, e4⟩⟩
          · rw [e1, e5, e3, e4]
            show AW _ _ _ _ _ _ _ _ [.int 0] (m_row (m_row (m_row I 95 F9) 104 D9) 105 A9) _ _ _
            have hof2 := rd_f ho hz (q := q) (by
              rcases hq with h | ⟨h1, h2, h3⟩
              · exact Or.inl h
              · exact Or.inr ⟨h1, (msA_f h2).1, h3.trans (msA_f h2).2.symm⟩)
            refine a_goto (tgt := 77) dM_lines_67 (by decide) ?_
            refine a_istore_n (lv' := [(2, .int 0), (4, .long (tkW (I 96) len p)), (3, .int (nI (tkB (I 96) len p))), (0, .ref 95), (1, .int (nI 1))]) dM_lines_77 rfl (by decide) rfl ?_
            refine a_iload_n 0 dM_lines_78 rfl rfl ?_
            refine a_if_eq (tgt := 95) dM_lines_79 (by decide) (fun _ => ?_) (fun c => False.elim (c rfl))
            refine a_iload_n 0 dM_lines_95 rfl rfl ?_
            refine a_if_eq (tgt := 103) dM_lines_96 (by decide) (fun _ => ?_) (fun c => False.elim (c rfl))
            refine a_goto (tgt := 2) dM_lines_103 (by decide) ?_
            refine a_iload_n 0 dM_lines_2 rfl rfl ?_
            refine a_if_eq (tgt := 106) dM_lines_3 (by decide) (fun _ => ?_) (fun c => False.elim (c rfl))
            refine a_iload_n 0 dM_lines_106 rfl rfl ?_
            exact a_zret dM_lines_107 rfl (by rfl) (hQ0 F9 D9 A9 _ (by rw [hof2.2]; exact h15) hof2.1)
          · rw [e1, e5, e3, e4]
            show AW _ _ _ _ _ _ _ _ [.int 1] (m_row (m_row (m_row I 95 F9) 104 D9) 105 A9) _ _ _
            have ml := ms0_le (T := I 96) (shA (lN9 (I 96) len 1 p)) he.2
            have m9 := msA_t hm1
            have r9 := rsS_le (s := tkS (I 96) len (ms0 (I 96) len (shA (lN9 (I 96) len 1 p)) (tkE (I 96) len p)).2)
            have bq := tkB_le (T := I 96) ml.2
            have eq := tkE_le (T := I 96) ml.2
            by_cases hst : tkS (I 96) len (ms0 (I 96) len (shA (lN9 (I 96) len 1 p)) (tkE (I 96) len p)).2 = 3
            · have e4' : rsS (tkS (I 96) len (ms0 (I 96) len (shA (lN9 (I 96) len 1 p)) (tkE (I 96) len p)).2) = 4 := rsS_4.mpr hst
              refine a_goto (tgt := 77) dM_lines_67 (by decide) ?_
              refine a_istore_n (lv' := [(2, .int 1), (4, .long (tkW (I 96) len p)), (3, .int (nI (tkB (I 96) len p))), (0, .ref 95), (1, .int (nI 1))]) dM_lines_77 rfl (by decide) rfl ?_
              refine a_iload_n 0 dM_lines_78 rfl rfl ?_
              refine a_if_eq (tgt := 95) dM_lines_79 (by decide) (fun c => False.elim (absurd c (by decide))) (fun _ => ?_)
              refine a_aload_n 3 dM_lines_82 rfl rfl ?_
              refine a_geti dM_lines_83 fl12_127 rfl ly_95 (by omega) ?_
              rw [show (m_row (m_row (m_row I 95 F9) 104 D9) 105 A9) 95 12 = (nI (rsS (tkS (I 96) len (ms0 (I 96) len (shA (lN9 (I 96) len 1 p)) (tkE (I 96) len p)).2))) from hS9.h12]
              refine a_iconstN (a := 4) dM_lines_86 (by decide) ?_
              refine a_icmp_eqN (tgt := 95) dM_lines_87 (by decide) (by omega) (by omega) (fun _ => ?_) (fun c => False.elim (by omega))
              refine a_iload_n 0 dM_lines_95 rfl rfl ?_
              refine a_if_eq (tgt := 103) dM_lines_96 (by decide) (fun c => False.elim (absurd c (by decide))) (fun _ => ?_)
              refine a_aload_n 3 dM_lines_99 rfl rfl ?_
              refine a_callV (Q' := m_res none (mRd I (tkG (I 96) len (tkE (I 96) len (ms0 (I 96) len (shA (lN9 (I 96) len 1 p)) (tkE (I 96) len p)).2) F9) D9 A9) (m_up J 95 14 (tkW (I 96) len (tkE (I 96) len (ms0 (I 96) len (shA (lN9 (I 96) len 1 p)) (tkE (I 96) len p)).2))) R) (as := []) (st := []) dM_lines_100 ml12_154 rfl (Nat.le_of_ble_eq_true rfl) ly_95 rfl rfl (by decide) (by omega) (Nat.le_of_ble_eq_true rfl) rfl (Nat.le_refl _) (Nat.le_refl _) (c_tok (S := S) (d := d + 5) (n := n) (F := F9) (D := D9) (A := A9) (w := tkW (I 96) len (ms0 (I 96) len (shA (lN9 (I 96) len 1 p)) (tkE (I 96) len p)).2) hn hR hl6 hby eq.2 hS9.h9 hS9.h10) (m_go ?_)
              show AW _ _ _ _ _ _ _ _ [] _ _ _ _
              refine a_goto (tgt := 2) dM_lines_103 (by decide) ?_
              refine a_locs (lv' := [(2, .int (nI 1)), (0, .ref 95), (1, .int (nI 1))]) [0, 3, 4] rfl ?_
              have ht9 : (msA (I 96) len 1 p).1 = true := by rw [m9]; exact decide_eq_true hst
              have hs9 := rd_s ho hz hl1 ht9
              rw [m9] at hs9
              have hon := tk_on hp hz
              exact ih (tkE (I 96) len (ms0 (I 96) len (shA (lN9 (I 96) len 1 p)) (tkE (I 96) len p)).2) (tkG (I 96) len (tkE (I 96) len (ms0 (I 96) len (shA (lN9 (I 96) len 1 p)) (tkE (I 96) len p)).2) F9) D9 A9 x9 gh9 gl9 g9 _ (by omega) eq.2 (RS_tk hby eq.2 hS9.h10 hS9.f5 hS9.h16 hS9.h17 (fun z => Nat.lt_of_lt_of_le (hS9.hlp z) (by omega)) hS9.h20 hS9.h21 hS9.h22) hR9 hs9
            · have e4' : ¬ rsS (tkS (I 96) len (ms0 (I 96) len (shA (lN9 (I 96) len 1 p)) (tkE (I 96) len p)).2) = 4 := fun q => hst (rsS_4.mp q)
              have hof2 := rd_f ho hz (q := (ms0 (I 96) len (shA (lN9 (I 96) len 1 p)) (tkE (I 96) len p)).2) (Or.inr ⟨hl1, by rw [m9, decide_eq_false hst]; exact Bool.false_ne_true, by rw [m9]⟩)
              refine a_goto (tgt := 77) dM_lines_67 (by decide) ?_
              refine a_istore_n (lv' := [(2, .int 1), (4, .long (tkW (I 96) len p)), (3, .int (nI (tkB (I 96) len p))), (0, .ref 95), (1, .int (nI 1))]) dM_lines_77 rfl (by decide) rfl ?_
              refine a_iload_n 0 dM_lines_78 rfl rfl ?_
              refine a_if_eq (tgt := 95) dM_lines_79 (by decide) (fun c => False.elim (absurd c (by decide))) (fun _ => ?_)
              refine a_aload_n 3 dM_lines_82 rfl rfl ?_
              refine a_geti dM_lines_83 fl12_127 rfl ly_95 (by omega) ?_
              rw [show (m_row (m_row (m_row I 95 F9) 104 D9) 105 A9) 95 12 = (nI (rsS (tkS (I 96) len (ms0 (I 96) len (shA (lN9 (I 96) len 1 p)) (tkE (I 96) len p)).2))) from hS9.h12]
              refine a_iconstN (a := 4) dM_lines_86 (by decide) ?_
              refine a_icmp_eqN (tgt := 95) dM_lines_87 (by decide) (by omega) (by omega) (fun c => False.elim (by omega)) (fun _ => ?_)
              refine a_aload_n 3 dM_lines_90 rfl rfl ?_
              refine a_callV (Q' := m_res (some (.int 0)) (mRd I (va_up F9 15 (F9 11)) D9 A9) (m_up J 95 14 (tkW (I 96) len (ms0 (I 96) len (shA (lN9 (I 96) len 1 p)) (tkE (I 96) len p)).2)) R) (as := []) (st := []) dM_lines_91 ml12_142 rfl (Nat.le_of_ble_eq_true rfl) ly_95 rfl rfl (by decide) (by omega) (Nat.le_of_ble_eq_true rfl) rfl (Nat.le_refl _) (Nat.le_refl _) (c_fails hn hR) (m_go ?_)
              show AW _ _ _ _ _ _ _ _ [.int 0] _ _ _ _
              refine a_istore_n (lv' := [(2, .int 0), (4, .long (tkW (I 96) len p)), (3, .int (nI (tkB (I 96) len p))), (0, .ref 95), (1, .int (nI 1))]) dM_lines_94 rfl (by decide) rfl ?_
              refine a_iload_n 0 dM_lines_95 rfl rfl ?_
              refine a_if_eq (tgt := 103) dM_lines_96 (by decide) (fun _ => ?_) (fun c => False.elim (c rfl))
              refine a_goto (tgt := 2) dM_lines_103 (by decide) ?_
              refine a_iload_n 0 dM_lines_2 rfl rfl ?_
              refine a_if_eq (tgt := 106) dM_lines_3 (by decide) (fun _ => ?_) (fun c => False.elim (c rfl))
              refine a_iload_n 0 dM_lines_106 rfl rfl ?_
              exact a_zret dM_lines_107 rfl (by rfl) (hQ0 (va_up F9 15 (F9 11)) D9 A9 _ (by rw [hof2.2]; exact hS9.h11) hof2.1)
        · have e2 : ¬ rsS (tkS (I 96) len p) = 2 := fun q => hs1 (rsS_2.mp q)
          have hwv : wvP (I 96) len p 0 := Or.inr ⟨hs1, rfl⟩
          refine a_iload_n 0 dM_lines_2 rfl rfl ?_
          refine a_if_eq (tgt := 106) dM_lines_3 (by decide) (fun c => False.elim (absurd c (by decide))) (fun _ => ?_)
          refine a_aload_n 1 dM_lines_6 rfl rfl ?_
          refine a_geti dM_lines_7 fl12_127 rfl ly_95 (by omega) ?_
          rw [show (m_row (m_row (m_row I 95 F) 104 D) 105 A) 95 12 = (nI (rsS (tkS (I 96) len p))) from hS.h12]
          refine a_if_eq (tgt := 106) dM_lines_10 (by decide) (fun c => False.elim (hz9 ((nI_eq (by omega) (by decide)).mp c))) (fun _ => ?_)
          refine a_aload_n 1 dM_lines_13 rfl rfl ?_
          refine a_geti dM_lines_14 fl12_120 rfl ly_95 (by omega) ?_
          rw [show (m_row (m_row (m_row I 95 F) 104 D) 105 A) 95 11 = (nI (tkB (I 96) len p)) from hS.h11]
          refine a_istore_n (lv' := [(3, .int (nI (tkB (I 96) len p))), (2, .int (nI 1)), (0, .ref 95), (1, .int (nI 1))]) dM_lines_17 rfl (by decide) rfl ?_
          refine a_aload_n 2 dM_lines_18 rfl rfl ?_
          refine a_geti dM_lines_19 fl12_127 rfl ly_95 (by omega) ?_
          rw [show (m_row (m_row (m_row I 95 F) 104 D) 105 A) 95 12 = (nI (rsS (tkS (I 96) len p))) from hS.h12]
          refine a_iconstN (a := 2) dM_lines_22 (by decide) ?_
          refine a_icmp_neN (tgt := 33) dM_lines_23 (by decide) (by omega) (by omega) (fun _ => ?_) (fun c => False.elim (by omega))
          refine a_lconst (v := 0) dM_lines_33 (by decide) ?_
          refine a_lstore (lv' := [(4, .long 0), (3, .int (nI (tkB (I 96) len p))), (2, .int (nI 1)), (0, .ref 95), (1, .int (nI 1))]) dM_lines_34 (by decide) rfl ?_
          refine a_aload_n 3 dM_lines_36 rfl rfl ?_
          refine a_iconstN (a := 1) dM_lines_37 (by decide) ?_
          refine a_putz dM_lines_38 fl12_150 rfl (by decide) ly_95 (by omega) ?_
          rw [show m_up (m_row (m_row (m_row I 95 F) 104 D) 105 A) 95 22 (nI 1) = (m_row (m_row (m_row I 95 (va_up F 22 (nI 1))) 104 D) 105 A) from (by rw [m_up_comm (by decide), m_up_comm (by decide), m_up_r])]
          refine a_iload_n 4 dM_lines_41 rfl rfl ?_
          refine a_if_ne (tgt := 55) dM_lines_42 (by decide) (fun _ => ?_) (fun c => False.elim (absurd c (by decide)))
          refine a_iload_n 4 dM_lines_55 rfl rfl ?_
          refine a_iconstN (a := 1) dM_lines_56 (by decide) ?_
          refine a_icmp_neN (tgt := 70) dM_lines_57 (by decide) (by omega) (by omega) (fun c => False.elim (by omega)) (fun _ => ?_)
          refine a_aload_n 3 dM_lines_60 rfl rfl ?_
          refine a_lload 0 dM_lines_61 rfl ?_
          refine a_iload_n 1 dM_lines_63 rfl rfl ?_
          refine a_callV (Q' := lnQ I J R len 1 p st) (as := [.long 0, .int (nI (tkB (I 96) len p))]) (st := []) dM_lines_64 ml12_233 rfl (Nat.le_of_ble_eq_true rfl) ly_95 rfl rfl (by decide) (by omega) (Nat.le_of_ble_eq_true rfl) rfl (Nat.le_refl _) (Nat.le_refl _) (r_wL (x := x) (F := va_up F 22 (nI 1)) (D := D) (A := A) (w := tkW (I 96) len p) (wv := 0) hn hR hl6 hby hp hS1 hwv hRR) ?_
          intro v9 I9 J9 R9 hq9
          rcases hq9 with ⟨e3, ⟨e1, ⟨w9, e5⟩, q, F9, D9, A9, h15, hq, e4⟩ | ⟨e1, hl1, hm1, e5, F9, A9, g9, D9, gh9, gl9, x9, hS9, hR9, e4⟩⟩
          · rw [e1, e5, e3, e4]
            show AW _ _ _ _ _ _ _ _ [.int 0] (m_row (m_row (m_row I 95 F9) 104 D9) 105 A9) _ _ _
            have hof2 := rd_f ho hz (q := q) (by
              rcases hq with h | ⟨h1, h2, h3⟩
              · exact Or.inl h
              · exact Or.inr ⟨h1, (msA_f h2).1, h3.trans (msA_f h2).2.symm⟩)
            refine a_goto (tgt := 77) dM_lines_67 (by decide) ?_
            refine a_istore_n (lv' := [(2, .int 0), (4, .long 0), (3, .int (nI (tkB (I 96) len p))), (0, .ref 95), (1, .int (nI 1))]) dM_lines_77 rfl (by decide) rfl ?_
            refine a_iload_n 0 dM_lines_78 rfl rfl ?_
            refine a_if_eq (tgt := 95) dM_lines_79 (by decide) (fun _ => ?_) (fun c => False.elim (c rfl))
            refine a_iload_n 0 dM_lines_95 rfl rfl ?_
            refine a_if_eq (tgt := 103) dM_lines_96 (by decide) (fun _ => ?_) (fun c => False.elim (c rfl))
            refine a_goto (tgt := 2) dM_lines_103 (by decide) ?_
            refine a_iload_n 0 dM_lines_2 rfl rfl ?_
            refine a_if_eq (tgt := 106) dM_lines_3 (by decide) (fun _ => ?_) (fun c => False.elim (c rfl))
            refine a_iload_n 0 dM_lines_106 rfl rfl ?_
            exact a_zret dM_lines_107 rfl (by rfl) (hQ0 F9 D9 A9 _ (by rw [hof2.2]; exact h15) hof2.1)
          · rw [e1, e5, e3, e4]
            show AW _ _ _ _ _ _ _ _ [.int 1] (m_row (m_row (m_row I 95 F9) 104 D9) 105 A9) _ _ _
            have ml := ms0_le (T := I 96) (shA (lN9 (I 96) len 1 p)) he.2
            have m9 := msA_t hm1
            have r9 := rsS_le (s := tkS (I 96) len (ms0 (I 96) len (shA (lN9 (I 96) len 1 p)) (tkE (I 96) len p)).2)
            have bq := tkB_le (T := I 96) ml.2
            have eq := tkE_le (T := I 96) ml.2
            by_cases hst : tkS (I 96) len (ms0 (I 96) len (shA (lN9 (I 96) len 1 p)) (tkE (I 96) len p)).2 = 3
            · have e4' : rsS (tkS (I 96) len (ms0 (I 96) len (shA (lN9 (I 96) len 1 p)) (tkE (I 96) len p)).2) = 4 := rsS_4.mpr hst
              refine a_goto (tgt := 77) dM_lines_67 (by decide) ?_
              refine a_istore_n (lv' := [(2, .int 1), (4, .long 0), (3, .int (nI (tkB (I 96) len p))), (0, .ref 95), (1, .int (nI 1))]) dM_lines_77 rfl (by decide) rfl ?_
              refine a_iload_n 0 dM_lines_78 rfl rfl ?_
              refine a_if_eq (tgt := 95) dM_lines_79 (by decide) (fun c => False.elim (absurd c (by decide))) (fun _ => ?_)
              refine a_aload_n 3 dM_lines_82 rfl rfl ?_
              refine a_geti dM_lines_83 fl12_127 rfl ly_95 (by omega) ?_
              rw [show (m_row (m_row (m_row I 95 F9) 104 D9) 105 A9) 95 12 = (nI (rsS (tkS (I 96) len (ms0 (I 96) len (shA (lN9 (I 96) len 1 p)) (tkE (I 96) len p)).2))) from hS9.h12]
              refine a_iconstN (a := 4) dM_lines_86 (by decide) ?_
              refine a_icmp_eqN (tgt := 95) dM_lines_87 (by decide) (by omega) (by omega) (fun _ => ?_) (fun c => False.elim (by omega))
              refine a_iload_n 0 dM_lines_95 rfl rfl ?_
              refine a_if_eq (tgt := 103) dM_lines_96 (by decide) (fun c => False.elim (absurd c (by decide))) (fun _ => ?_)
              refine a_aload_n 3 dM_lines_99 rfl rfl ?_
              refine a_callV (Q' := m_res none (mRd I (tkG (I 96) len (tkE (I 96) len (ms0 (I 96) len (shA (lN9 (I 96) len 1 p)) (tkE (I 96) len p)).2) F9) D9 A9) (m_up J 95 14 (tkW (I 96) len (tkE (I 96) len (ms0 (I 96) len (shA (lN9 (I 96) len 1 p)) (tkE (I 96) len p)).2))) R) (as := []) (st := []) dM_lines_100 ml12_154 rfl (Nat.le_of_ble_eq_true rfl) ly_95 rfl rfl (by decide) (by omega) (Nat.le_of_ble_eq_true rfl) rfl (Nat.le_refl _) (Nat.le_refl _) (c_tok (S := S) (d := d + 5) (n := n) (F := F9) (D := D9) (A := A9) (w := tkW (I 96) len (ms0 (I 96) len (shA (lN9 (I 96) len 1 p)) (tkE (I 96) len p)).2) hn hR hl6 hby eq.2 hS9.h9 hS9.h10) (m_go ?_)
              show AW _ _ _ _ _ _ _ _ [] _ _ _ _
              refine a_goto (tgt := 2) dM_lines_103 (by decide) ?_
              refine a_locs (lv' := [(2, .int (nI 1)), (0, .ref 95), (1, .int (nI 1))]) [0, 3, 4] rfl ?_
              have ht9 : (msA (I 96) len 1 p).1 = true := by rw [m9]; exact decide_eq_true hst
              have hs9 := rd_s ho hz hl1 ht9
              rw [m9] at hs9
              have hon := tk_on hp hz
              exact ih (tkE (I 96) len (ms0 (I 96) len (shA (lN9 (I 96) len 1 p)) (tkE (I 96) len p)).2) (tkG (I 96) len (tkE (I 96) len (ms0 (I 96) len (shA (lN9 (I 96) len 1 p)) (tkE (I 96) len p)).2) F9) D9 A9 x9 gh9 gl9 g9 _ (by omega) eq.2 (RS_tk hby eq.2 hS9.h10 hS9.f5 hS9.h16 hS9.h17 (fun z => Nat.lt_of_lt_of_le (hS9.hlp z) (by omega)) hS9.h20 hS9.h21 hS9.h22) hR9 hs9
            · have e4' : ¬ rsS (tkS (I 96) len (ms0 (I 96) len (shA (lN9 (I 96) len 1 p)) (tkE (I 96) len p)).2) = 4 := fun q => hst (rsS_4.mp q)
              have hof2 := rd_f ho hz (q := (ms0 (I 96) len (shA (lN9 (I 96) len 1 p)) (tkE (I 96) len p)).2) (Or.inr ⟨hl1, by rw [m9, decide_eq_false hst]; exact Bool.false_ne_true, by rw [m9]⟩)
              refine a_goto (tgt := 77) dM_lines_67 (by decide) ?_
              refine a_istore_n (lv' := [(2, .int 1), (4, .long 0), (3, .int (nI (tkB (I 96) len p))), (0, .ref 95), (1, .int (nI 1))]) dM_lines_77 rfl (by decide) rfl ?_
              refine a_iload_n 0 dM_lines_78 rfl rfl ?_
              refine a_if_eq (tgt := 95) dM_lines_79 (by decide) (fun c => False.elim (absurd c (by decide))) (fun _ => ?_)
              refine a_aload_n 3 dM_lines_82 rfl rfl ?_
              refine a_geti dM_lines_83 fl12_127 rfl ly_95 (by omega) ?_
              rw [show (m_row (m_row (m_row I 95 F9) 104 D9) 105 A9) 95 12 = (nI (rsS (tkS (I 96) len (ms0 (I 96) len (shA (lN9 (I 96) len 1 p)) (tkE (I 96) len p)).2))) from hS9.h12]
              refine a_iconstN (a := 4) dM_lines_86 (by decide) ?_
              refine a_icmp_eqN (tgt := 95) dM_lines_87 (by decide) (by omega) (by omega) (fun c => False.elim (by omega)) (fun _ => ?_)
              refine a_aload_n 3 dM_lines_90 rfl rfl ?_
              refine a_callV (Q' := m_res (some (.int 0)) (mRd I (va_up F9 15 (F9 11)) D9 A9) (m_up J 95 14 (tkW (I 96) len (ms0 (I 96) len (shA (lN9 (I 96) len 1 p)) (tkE (I 96) len p)).2)) R) (as := []) (st := []) dM_lines_91 ml12_142 rfl (Nat.le_of_ble_eq_true rfl) ly_95 rfl rfl (by decide) (by omega) (Nat.le_of_ble_eq_true rfl) rfl (Nat.le_refl _) (Nat.le_refl _) (c_fails hn hR) (m_go ?_)
              show AW _ _ _ _ _ _ _ _ [.int 0] _ _ _ _
              refine a_istore_n (lv' := [(2, .int 0), (4, .long 0), (3, .int (nI (tkB (I 96) len p))), (0, .ref 95), (1, .int (nI 1))]) dM_lines_94 rfl (by decide) rfl ?_
              refine a_iload_n 0 dM_lines_95 rfl rfl ?_
              refine a_if_eq (tgt := 103) dM_lines_96 (by decide) (fun _ => ?_) (fun c => False.elim (c rfl))
              refine a_goto (tgt := 2) dM_lines_103 (by decide) ?_
              refine a_iload_n 0 dM_lines_2 rfl rfl ?_
              refine a_if_eq (tgt := 106) dM_lines_3 (by decide) (fun _ => ?_) (fun c => False.elim (c rfl))
              refine a_iload_n 0 dM_lines_106 rfl rfl ?_
              exact a_zret dM_lines_107 rfl (by rfl) (hQ0 (va_up F9 15 (F9 11)) D9 A9 _ (by rw [hof2.2]; exact hS9.h11) hof2.1)
      · subst o9
        by_cases hs1 : tkS (I 96) len p = 1
        · have e2 : rsS (tkS (I 96) len p) = 2 := rsS_2.mpr hs1
          have hwv : wvP (I 96) len p (tkW (I 96) len p) := Or.inl ⟨hs1, rfl⟩
          refine a_iload_n 0 dM_lines_2 rfl rfl ?_
          refine a_if_eq (tgt := 106) dM_lines_3 (by decide) (fun c => False.elim (absurd c (by decide))) (fun _ => ?_)
          refine a_aload_n 1 dM_lines_6 rfl rfl ?_
          refine a_geti dM_lines_7 fl12_127 rfl ly_95 (by omega) ?_
          rw [show (m_row (m_row (m_row I 95 F) 104 D) 105 A) 95 12 = (nI (rsS (tkS (I 96) len p))) from hS.h12]
          refine a_if_eq (tgt := 106) dM_lines_10 (by decide) (fun c => False.elim (hz9 ((nI_eq (by omega) (by decide)).mp c))) (fun _ => ?_)
          refine a_aload_n 1 dM_lines_13 rfl rfl ?_
          refine a_geti dM_lines_14 fl12_120 rfl ly_95 (by omega) ?_
          rw [show (m_row (m_row (m_row I 95 F) 104 D) 105 A) 95 11 = (nI (tkB (I 96) len p)) from hS.h11]
          refine a_istore_n (lv' := [(3, .int (nI (tkB (I 96) len p))), (2, .int (nI 1)), (0, .ref 95), (1, .int (nI 2))]) dM_lines_17 rfl (by decide) rfl ?_
          refine a_aload_n 2 dM_lines_18 rfl rfl ?_
          refine a_geti dM_lines_19 fl12_127 rfl ly_95 (by omega) ?_
          rw [show (m_row (m_row (m_row I 95 F) 104 D) 105 A) 95 12 = (nI (rsS (tkS (I 96) len p))) from hS.h12]
          refine a_iconstN (a := 2) dM_lines_22 (by decide) ?_
          refine a_icmp_neN (tgt := 33) dM_lines_23 (by decide) (by omega) (by omega) (fun c => False.elim (by omega)) (fun _ => ?_)
          refine a_aload_n 2 dM_lines_26 rfl rfl ?_
          refine a_getl dM_lines_27 fl12_123 rfl ly_95 (by omega) ?_
          rw [show (m_up J 95 14 (tkW (I 96) len p)) 95 14 = (tkW (I 96) len p) from by rfl]
          refine a_goto (tgt := 34) dM_lines_30 (by decide) ?_
          refine a_lstore (lv' := [(4, .long (tkW (I 96) len p)), (3, .int (nI (tkB (I 96) len p))), (2, .int (nI 1)), (0, .ref 95), (1, .int (nI 2))]) dM_lines_34 (by decide) rfl ?_
          refine a_aload_n 3 dM_lines_36 rfl rfl ?_
          refine a_iconstN (a := 1) dM_lines_37 (by decide) ?_
          refine a_putz dM_lines_38 fl12_150 rfl (by decide) ly_95 (by omega) ?_
          rw [show m_up (m_row (m_row (m_row I 95 F) 104 D) 105 A) 95 22 (nI 1) = (m_row (m_row (m_row I 95 (va_up F 22 (nI 1))) 104 D) 105 A) from (by rw [m_up_comm (by decide), m_up_comm (by decide), m_up_r])]
          refine a_iload_n 4 dM_lines_41 rfl rfl ?_
          refine a_if_ne (tgt := 55) dM_lines_42 (by decide) (fun _ => ?_) (fun c => False.elim (absurd c (by decide)))
          refine a_iload_n 4 dM_lines_55 rfl rfl ?_
          refine a_iconstN (a := 1) dM_lines_56 (by decide) ?_
          refine a_icmp_neN (tgt := 70) dM_lines_57 (by decide) (by omega) (by omega) (fun _ => ?_) (fun c => False.elim (by omega))
          refine a_aload_n 3 dM_lines_70 rfl rfl ?_
          refine a_lload 0 dM_lines_71 rfl ?_
          refine a_iload_n 1 dM_lines_73 rfl rfl ?_
          refine a_callV (Q' := lnQ I J R len 2 p st) (as := [.long (tkW (I 96) len p), .int (nI (tkB (I 96) len p))]) (st := []) dM_lines_74 ml12_236 rfl (Nat.le_of_ble_eq_true rfl) ly_95 rfl rfl (by decide) (by omega) (Nat.le_of_ble_eq_true rfl) rfl (Nat.le_refl _) (Nat.le_refl _) (r_gL (x := x) (F := va_up F 22 (nI 1)) (D := D) (A := A) (w := tkW (I 96) len p) (wv := (tkW (I 96) len p)) hn hR hl6 hby hp hS1 hwv hRR) ?_
          intro v9 I9 J9 R9 hq9
          rcases hq9 with ⟨e3, ⟨e1, ⟨w9, e5⟩, q, F9, D9, A9, h15, hq, e4⟩ | ⟨e1, hl1, hm1, e5, F9, A9, g9, D9, gh9, gl9, x9, hS9, hR9, e4⟩⟩
          · rw [e1, e5, e3, e4]
            show AW _ _ _ _ _ _ _ _ [.int 0] (m_row (m_row (m_row I 95 F9) 104 D9) 105 A9) _ _ _
            have hof2 := rd_f ho hz (q := q) (by
              rcases hq with h | ⟨h1, h2, h3⟩
              · exact Or.inl h
              · exact Or.inr ⟨h1, (msA_f h2).1, h3.trans (msA_f h2).2.symm⟩)
            refine a_istore_n (lv' := [(2, .int 0), (4, .long (tkW (I 96) len p)), (3, .int (nI (tkB (I 96) len p))), (0, .ref 95), (1, .int (nI 2))]) dM_lines_77 rfl (by decide) rfl ?_
            refine a_iload_n 0 dM_lines_78 rfl rfl ?_
            refine a_if_eq (tgt := 95) dM_lines_79 (by decide) (fun _ => ?_) (fun c => False.elim (c rfl))
            refine a_iload_n 0 dM_lines_95 rfl rfl ?_
            refine a_if_eq (tgt := 103) dM_lines_96 (by decide) (fun _ => ?_) (fun c => False.elim (c rfl))
            refine a_goto (tgt := 2) dM_lines_103 (by decide) ?_
            refine a_iload_n 0 dM_lines_2 rfl rfl ?_
            refine a_if_eq (tgt := 106) dM_lines_3 (by decide) (fun _ => ?_) (fun c => False.elim (c rfl))
            refine a_iload_n 0 dM_lines_106 rfl rfl ?_
            exact a_zret dM_lines_107 rfl (by rfl) (hQ0 F9 D9 A9 _ (by rw [hof2.2]; exact h15) hof2.1)
          · rw [e1, e5, e3, e4]
            show AW _ _ _ _ _ _ _ _ [.int 1] (m_row (m_row (m_row I 95 F9) 104 D9) 105 A9) _ _ _
            have ml := ms0_le (T := I 96) (shA (lN9 (I 96) len 2 p)) he.2
            have m9 := msA_t hm1
            have r9 := rsS_le (s := tkS (I 96) len (ms0 (I 96) len (shA (lN9 (I 96) len 2 p)) (tkE (I 96) len p)).2)
            have bq := tkB_le (T := I 96) ml.2
            have eq := tkE_le (T := I 96) ml.2
            by_cases hst : tkS (I 96) len (ms0 (I 96) len (shA (lN9 (I 96) len 2 p)) (tkE (I 96) len p)).2 = 3
            · have e4' : rsS (tkS (I 96) len (ms0 (I 96) len (shA (lN9 (I 96) len 2 p)) (tkE (I 96) len p)).2) = 4 := rsS_4.mpr hst
              refine a_istore_n (lv' := [(2, .int 1), (4, .long (tkW (I 96) len p)), (3, .int (nI (tkB (I 96) len p))), (0, .ref 95), (1, .int (nI 2))]) dM_lines_77 rfl (by decide) rfl ?_
              refine a_iload_n 0 dM_lines_78 rfl rfl ?_
              refine a_if_eq (tgt := 95) dM_lines_79 (by decide) (fun c => False.elim (absurd c (by decide))) (fun _ => ?_)
              refine a_aload_n 3 dM_lines_82 rfl rfl ?_
              refine a_geti dM_lines_83 fl12_127 rfl ly_95 (by omega) ?_
              rw [show (m_row (m_row (m_row I 95 F9) 104 D9) 105 A9) 95 12 = (nI (rsS (tkS (I 96) len (ms0 (I 96) len (shA (lN9 (I 96) len 2 p)) (tkE (I 96) len p)).2))) from hS9.h12]
              refine a_iconstN (a := 4) dM_lines_86 (by decide) ?_
              refine a_icmp_eqN (tgt := 95) dM_lines_87 (by decide) (by omega) (by omega) (fun _ => ?_) (fun c => False.elim (by omega))
              refine a_iload_n 0 dM_lines_95 rfl rfl ?_
              refine a_if_eq (tgt := 103) dM_lines_96 (by decide) (fun c => False.elim (absurd c (by decide))) (fun _ => ?_)
              refine a_aload_n 3 dM_lines_99 rfl rfl ?_
              refine a_callV (Q' := m_res none (mRd I (tkG (I 96) len (tkE (I 96) len (ms0 (I 96) len (shA (lN9 (I 96) len 2 p)) (tkE (I 96) len p)).2) F9) D9 A9) (m_up J 95 14 (tkW (I 96) len (tkE (I 96) len (ms0 (I 96) len (shA (lN9 (I 96) len 2 p)) (tkE (I 96) len p)).2))) R) (as := []) (st := []) dM_lines_100 ml12_154 rfl (Nat.le_of_ble_eq_true rfl) ly_95 rfl rfl (by decide) (by omega) (Nat.le_of_ble_eq_true rfl) rfl (Nat.le_refl _) (Nat.le_refl _) (c_tok (S := S) (d := d + 5) (n := n) (F := F9) (D := D9) (A := A9) (w := tkW (I 96) len (ms0 (I 96) len (shA (lN9 (I 96) len 2 p)) (tkE (I 96) len p)).2) hn hR hl6 hby eq.2 hS9.h9 hS9.h10) (m_go ?_)
              show AW _ _ _ _ _ _ _ _ [] _ _ _ _
              refine a_goto (tgt := 2) dM_lines_103 (by decide) ?_
              refine a_locs (lv' := [(2, .int (nI 1)), (0, .ref 95), (1, .int (nI 2))]) [0, 3, 4] rfl ?_
              have ht9 : (msA (I 96) len 2 p).1 = true := by rw [m9]; exact decide_eq_true hst
              have hs9 := rd_s ho hz hl1 ht9
              rw [m9] at hs9
              have hon := tk_on hp hz
              exact ih (tkE (I 96) len (ms0 (I 96) len (shA (lN9 (I 96) len 2 p)) (tkE (I 96) len p)).2) (tkG (I 96) len (tkE (I 96) len (ms0 (I 96) len (shA (lN9 (I 96) len 2 p)) (tkE (I 96) len p)).2) F9) D9 A9 x9 gh9 gl9 g9 _ (by omega) eq.2 (RS_tk hby eq.2 hS9.h10 hS9.f5 hS9.h16 hS9.h17 (fun z => Nat.lt_of_lt_of_le (hS9.hlp z) (by omega)) hS9.h20 hS9.h21 hS9.h22) hR9 hs9
            · have e4' : ¬ rsS (tkS (I 96) len (ms0 (I 96) len (shA (lN9 (I 96) len 2 p)) (tkE (I 96) len p)).2) = 4 := fun q => hst (rsS_4.mp q)
              have hof2 := rd_f ho hz (q := (ms0 (I 96) len (shA (lN9 (I 96) len 2 p)) (tkE (I 96) len p)).2) (Or.inr ⟨hl1, by rw [m9, decide_eq_false hst]; exact Bool.false_ne_true, by rw [m9]⟩)
              refine a_istore_n (lv' := [(2, .int 1), (4, .long (tkW (I 96) len p)), (3, .int (nI (tkB (I 96) len p))), (0, .ref 95), (1, .int (nI 2))]) dM_lines_77 rfl (by decide) rfl ?_
              refine a_iload_n 0 dM_lines_78 rfl rfl ?_
              refine a_if_eq (tgt := 95) dM_lines_79 (by decide) (fun c => False.elim (absurd c (by decide))) (fun _ => ?_)
              refine a_aload_n 3 dM_lines_82 rfl rfl ?_
              refine a_geti dM_lines_83 fl12_127 rfl ly_95 (by omega) ?_
              rw [show (m_row (m_row (m_row I 95 F9) 104 D9) 105 A9) 95 12 = (nI (rsS (tkS (I 96) len (ms0 (I 96) len (shA (lN9 (I 96) len 2 p)) (tkE (I 96) len p)).2))) from hS9.h12]
              refine a_iconstN (a := 4) dM_lines_86 (by decide) ?_
              refine a_icmp_eqN (tgt := 95) dM_lines_87 (by decide) (by omega) (by omega) (fun c => False.elim (by omega)) (fun _ => ?_)
              refine a_aload_n 3 dM_lines_90 rfl rfl ?_
              refine a_callV (Q' := m_res (some (.int 0)) (mRd I (va_up F9 15 (F9 11)) D9 A9) (m_up J 95 14 (tkW (I 96) len (ms0 (I 96) len (shA (lN9 (I 96) len 2 p)) (tkE (I 96) len p)).2)) R) (as := []) (st := []) dM_lines_91 ml12_142 rfl (Nat.le_of_ble_eq_true rfl) ly_95 rfl rfl (by decide) (by omega) (Nat.le_of_ble_eq_true rfl) rfl (Nat.le_refl _) (Nat.le_refl _) (c_fails hn hR) (m_go ?_)
              show AW _ _ _ _ _ _ _ _ [.int 0] _ _ _ _
              refine a_istore_n (lv' := [(2, .int 0), (4, .long (tkW (I 96) len p)), (3, .int (nI (tkB (I 96) len p))), (0, .ref 95), (1, .int (nI 2))]) dM_lines_94 rfl (by decide) rfl ?_
              refine a_iload_n 0 dM_lines_95 rfl rfl ?_
              refine a_if_eq (tgt := 103) dM_lines_96 (by decide) (fun _ => ?_) (fun c => False.elim (c rfl))
              refine a_goto (tgt := 2) dM_lines_103 (by decide) ?_
              refine a_iload_n 0 dM_lines_2 rfl rfl ?_
              refine a_if_eq (tgt := 106) dM_lines_3 (by decide) (fun _ => ?_) (fun c => False.elim (c rfl))
              refine a_iload_n 0 dM_lines_106 rfl rfl ?_
              exact a_zret dM_lines_107 rfl (by rfl) (hQ0 (va_up F9 15 (F9 11)) D9 A9 _ (by rw [hof2.2]; exact hS9.h11) hof2.1)
        · have e2 : ¬ rsS (tkS (I 96) len p) = 2 := fun q => hs1 (rsS_2.mp q)
          have hwv : wvP (I 96) len p 0 := Or.inr ⟨hs1, rfl⟩
          refine a_iload_n 0 dM_lines_2 rfl rfl ?_
          refine a_if_eq (tgt := 106) dM_lines_3 (by decide) (fun c => False.elim (absurd c (by decide))) (fun _ => ?_)
          refine a_aload_n 1 dM_lines_6 rfl rfl ?_
          refine a_geti dM_lines_7 fl12_127 rfl ly_95 (by omega) ?_
          rw [show (m_row (m_row (m_row I 95 F) 104 D) 105 A) 95 12 = (nI (rsS (tkS (I 96) len p))) from hS.h12]
          refine a_if_eq (tgt := 106) dM_lines_10 (by decide) (fun c => False.elim (hz9 ((nI_eq (by omega) (by decide)).mp c))) (fun _ => ?_)
          refine a_aload_n 1 dM_lines_13 rfl rfl ?_
          refine a_geti dM_lines_14 fl12_120 rfl ly_95 (by omega) ?_
          rw [show (m_row (m_row (m_row I 95 F) 104 D) 105 A) 95 11 = (nI (tkB (I 96) len p)) from hS.h11]
          refine a_istore_n (lv' := [(3, .int (nI (tkB (I 96) len p))), (2, .int (nI 1)), (0, .ref 95), (1, .int (nI 2))]) dM_lines_17 rfl (by decide) rfl ?_
          refine a_aload_n 2 dM_lines_18 rfl rfl ?_
          refine a_geti dM_lines_19 fl12_127 rfl ly_95 (by omega) ?_
          rw [show (m_row (m_row (m_row I 95 F) 104 D) 105 A) 95 12 = (nI (rsS (tkS (I 96) len p))) from hS.h12]
          refine a_iconstN (a := 2) dM_lines_22 (by decide) ?_
          refine a_icmp_neN (tgt := 33) dM_lines_23 (by decide) (by omega) (by omega) (fun _ => ?_) (fun c => False.elim (by omega))
          refine a_lconst (v := 0) dM_lines_33 (by decide) ?_
          refine a_lstore (lv' := [(4, .long 0), (3, .int (nI (tkB (I 96) len p))), (2, .int (nI 1)), (0, .ref 95), (1, .int (nI 2))]) dM_lines_34 (by decide) rfl ?_
          refine a_aload_n 3 dM_lines_36 rfl rfl ?_
          refine a_iconstN (a := 1) dM_lines_37 (by decide) ?_
          refine a_putz dM_lines_38 fl12_150 rfl (by decide) ly_95 (by omega) ?_
          rw [show m_up (m_row (m_row (m_row I 95 F) 104 D) 105 A) 95 22 (nI 1) = (m_row (m_row (m_row I 95 (va_up F 22 (nI 1))) 104 D) 105 A) from (by rw [m_up_comm (by decide), m_up_comm (by decide), m_up_r])]
          refine a_iload_n 4 dM_lines_41 rfl rfl ?_
          refine a_if_ne (tgt := 55) dM_lines_42 (by decide) (fun _ => ?_) (fun c => False.elim (absurd c (by decide)))
          refine a_iload_n 4 dM_lines_55 rfl rfl ?_
          refine a_iconstN (a := 1) dM_lines_56 (by decide) ?_
          refine a_icmp_neN (tgt := 70) dM_lines_57 (by decide) (by omega) (by omega) (fun _ => ?_) (fun c => False.elim (by omega))
          refine a_aload_n 3 dM_lines_70 rfl rfl ?_
          refine a_lload 0 dM_lines_71 rfl ?_
          refine a_iload_n 1 dM_lines_73 rfl rfl ?_
          refine a_callV (Q' := lnQ I J R len 2 p st) (as := [.long 0, .int (nI (tkB (I 96) len p))]) (st := []) dM_lines_74 ml12_236 rfl (Nat.le_of_ble_eq_true rfl) ly_95 rfl rfl (by decide) (by omega) (Nat.le_of_ble_eq_true rfl) rfl (Nat.le_refl _) (Nat.le_refl _) (r_gL (x := x) (F := va_up F 22 (nI 1)) (D := D) (A := A) (w := tkW (I 96) len p) (wv := 0) hn hR hl6 hby hp hS1 hwv hRR) ?_
          intro v9 I9 J9 R9 hq9
          rcases hq9 with ⟨e3, ⟨e1, ⟨w9, e5⟩, q, F9, D9, A9, h15, hq, e4⟩ | ⟨e1, hl1, hm1, e5, F9, A9, g9, D9, gh9, gl9, x9, hS9, hR9, e4⟩⟩
          · rw [e1, e5, e3, e4]
            show AW _ _ _ _ _ _ _ _ [.int 0] (m_row (m_row (m_row I 95 F9) 104 D9) 105 A9) _ _ _
            have hof2 := rd_f ho hz (q := q) (by
              rcases hq with h | ⟨h1, h2, h3⟩
              · exact Or.inl h
              · exact Or.inr ⟨h1, (msA_f h2).1, h3.trans (msA_f h2).2.symm⟩)
            refine a_istore_n (lv' := [(2, .int 0), (4, .long 0), (3, .int (nI (tkB (I 96) len p))), (0, .ref 95), (1, .int (nI 2))]) dM_lines_77 rfl (by decide) rfl ?_
            refine a_iload_n 0 dM_lines_78 rfl rfl ?_
            refine a_if_eq (tgt := 95) dM_lines_79 (by decide) (fun _ => ?_) (fun c => False.elim (c rfl))
            refine a_iload_n 0 dM_lines_95 rfl rfl ?_
            refine a_if_eq (tgt := 103) dM_lines_96 (by decide) (fun _ => ?_) (fun c => False.elim (c rfl))
            refine a_goto (tgt := 2) dM_lines_103 (by decide) ?_
            refine a_iload_n 0 dM_lines_2 rfl rfl ?_
            refine a_if_eq (tgt := 106) dM_lines_3 (by decide) (fun _ => ?_) (fun c => False.elim (c rfl))
            refine a_iload_n 0 dM_lines_106 rfl rfl ?_
            exact a_zret dM_lines_107 rfl (by rfl) (hQ0 F9 D9 A9 _ (by rw [hof2.2]; exact h15) hof2.1)
          · rw [e1, e5, e3, e4]
            show AW _ _ _ _ _ _ _ _ [.int 1] (m_row (m_row (m_row I 95 F9) 104 D9) 105 A9) _ _ _
            have ml := ms0_le (T := I 96) (shA (lN9 (I 96) len 2 p)) he.2
            have m9 := msA_t hm1
            have r9 := rsS_le (s := tkS (I 96) len (ms0 (I 96) len (shA (lN9 (I 96) len 2 p)) (tkE (I 96) len p)).2)
            have bq := tkB_le (T := I 96) ml.2
            have eq := tkE_le (T := I 96) ml.2
            by_cases hst : tkS (I 96) len (ms0 (I 96) len (shA (lN9 (I 96) len 2 p)) (tkE (I 96) len p)).2 = 3
            · have e4' : rsS (tkS (I 96) len (ms0 (I 96) len (shA (lN9 (I 96) len 2 p)) (tkE (I 96) len p)).2) = 4 := rsS_4.mpr hst
              refine a_istore_n (lv' := [(2, .int 1), (4, .long 0), (3, .int (nI (tkB (I 96) len p))), (0, .ref 95), (1, .int (nI 2))]) dM_lines_77 rfl (by decide) rfl ?_
              refine a_iload_n 0 dM_lines_78 rfl rfl ?_
              refine a_if_eq (tgt := 95) dM_lines_79 (by decide) (fun c => False.elim (absurd c (by decide))) (fun _ => ?_)
              refine a_aload_n 3 dM_lines_82 rfl rfl ?_
              refine a_geti dM_lines_83 fl12_127 rfl ly_95 (by omega) ?_
              rw [show (m_row (m_row (m_row I 95 F9) 104 D9) 105 A9) 95 12 = (nI (rsS (tkS (I 96) len (ms0 (I 96) len (shA (lN9 (I 96) len 2 p)) (tkE (I 96) len p)).2))) from hS9.h12]
              refine a_iconstN (a := 4) dM_lines_86 (by decide) ?_
              refine a_icmp_eqN (tgt := 95) dM_lines_87 (by decide) (by omega) (by omega) (fun _ => ?_) (fun c => False.elim (by omega))
              refine a_iload_n 0 dM_lines_95 rfl rfl ?_
              refine a_if_eq (tgt := 103) dM_lines_96 (by decide) (fun c => False.elim (absurd c (by decide))) (fun _ => ?_)
              refine a_aload_n 3 dM_lines_99 rfl rfl ?_
              refine a_callV (Q' := m_res none (mRd I (tkG (I 96) len (tkE (I 96) len (ms0 (I 96) len (shA (lN9 (I 96) len 2 p)) (tkE (I 96) len p)).2) F9) D9 A9) (m_up J 95 14 (tkW (I 96) len (tkE (I 96) len (ms0 (I 96) len (shA (lN9 (I 96) len 2 p)) (tkE (I 96) len p)).2))) R) (as := []) (st := []) dM_lines_100 ml12_154 rfl (Nat.le_of_ble_eq_true rfl) ly_95 rfl rfl (by decide) (by omega) (Nat.le_of_ble_eq_true rfl) rfl (Nat.le_refl _) (Nat.le_refl _) (c_tok (S := S) (d := d + 5) (n := n) (F := F9) (D := D9) (A := A9) (w := tkW (I 96) len (ms0 (I 96) len (shA (lN9 (I 96) len 2 p)) (tkE (I 96) len p)).2) hn hR hl6 hby eq.2 hS9.h9 hS9.h10) (m_go ?_)
              show AW _ _ _ _ _ _ _ _ [] _ _ _ _
              refine a_goto (tgt := 2) dM_lines_103 (by decide) ?_
              refine a_locs (lv' := [(2, .int (nI 1)), (0, .ref 95), (1, .int (nI 2))]) [0, 3, 4] rfl ?_
              have ht9 : (msA (I 96) len 2 p).1 = true := by rw [m9]; exact decide_eq_true hst
              have hs9 := rd_s ho hz hl1 ht9
              rw [m9] at hs9
              have hon := tk_on hp hz
              exact ih (tkE (I 96) len (ms0 (I 96) len (shA (lN9 (I 96) len 2 p)) (tkE (I 96) len p)).2) (tkG (I 96) len (tkE (I 96) len (ms0 (I 96) len (shA (lN9 (I 96) len 2 p)) (tkE (I 96) len p)).2) F9) D9 A9 x9 gh9 gl9 g9 _ (by omega) eq.2 (RS_tk hby eq.2 hS9.h10 hS9.f5 hS9.h16 hS9.h17 (fun z => Nat.lt_of_lt_of_le (hS9.hlp z) (by omega)) hS9.h20 hS9.h21 hS9.h22) hR9 hs9
            · have e4' : ¬ rsS (tkS (I 96) len (ms0 (I 96) len (shA (lN9 (I 96) len 2 p)) (tkE (I 96) len p)).2) = 4 := fun q => hst (rsS_4.mp q)
              have hof2 := rd_f ho hz (q := (ms0 (I 96) len (shA (lN9 (I 96) len 2 p)) (tkE (I 96) len p)).2) (Or.inr ⟨hl1, by rw [m9, decide_eq_false hst]; exact Bool.false_ne_true, by rw [m9]⟩)
              refine a_istore_n (lv' := [(2, .int 1), (4, .long 0), (3, .int (nI (tkB (I 96) len p))), (0, .ref 95), (1, .int (nI 2))]) dM_lines_77 rfl (by decide) rfl ?_
              refine a_iload_n 0 dM_lines_78 rfl rfl ?_
              refine a_if_eq (tgt := 95) dM_lines_79 (by decide) (fun c => False.elim (absurd c (by decide))) (fun _ => ?_)
              refine a_aload_n 3 dM_lines_82 rfl rfl ?_
              refine a_geti dM_lines_83 fl12_127 rfl ly_95 (by omega) ?_
              rw [show (m_row (m_row (m_row I 95 F9) 104 D9) 105 A9) 95 12 = (nI (rsS (tkS (I 96) len (ms0 (I 96) len (shA (lN9 (I 96) len 2 p)) (tkE (I 96) len p)).2))) from hS9.h12]
              refine a_iconstN (a := 4) dM_lines_86 (by decide) ?_
              refine a_icmp_eqN (tgt := 95) dM_lines_87 (by decide) (by omega) (by omega) (fun c => False.elim (by omega)) (fun _ => ?_)
              refine a_aload_n 3 dM_lines_90 rfl rfl ?_
              refine a_callV (Q' := m_res (some (.int 0)) (mRd I (va_up F9 15 (F9 11)) D9 A9) (m_up J 95 14 (tkW (I 96) len (ms0 (I 96) len (shA (lN9 (I 96) len 2 p)) (tkE (I 96) len p)).2)) R) (as := []) (st := []) dM_lines_91 ml12_142 rfl (Nat.le_of_ble_eq_true rfl) ly_95 rfl rfl (by decide) (by omega) (Nat.le_of_ble_eq_true rfl) rfl (Nat.le_refl _) (Nat.le_refl _) (c_fails hn hR) (m_go ?_)
              show AW _ _ _ _ _ _ _ _ [.int 0] _ _ _ _
              refine a_istore_n (lv' := [(2, .int 0), (4, .long 0), (3, .int (nI (tkB (I 96) len p))), (0, .ref 95), (1, .int (nI 2))]) dM_lines_94 rfl (by decide) rfl ?_
              refine a_iload_n 0 dM_lines_95 rfl rfl ?_
              refine a_if_eq (tgt := 103) dM_lines_96 (by decide) (fun _ => ?_) (fun c => False.elim (c rfl))
              refine a_goto (tgt := 2) dM_lines_103 (by decide) ?_
              refine a_iload_n 0 dM_lines_2 rfl rfl ?_
              refine a_if_eq (tgt := 106) dM_lines_3 (by decide) (fun _ => ?_) (fun c => False.elim (c rfl))
              refine a_iload_n 0 dM_lines_106 rfl rfl ?_
              exact a_zret dM_lines_107 rfl (by rfl) (hQ0 (va_up F9 15 (F9 11)) D9 A9 _ (by rw [hof2.2]; exact hS9.h11) hof2.1)
