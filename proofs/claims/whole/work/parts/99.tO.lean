def DiA (D : Nat → Int32) (of : Nat) : Nat → Int32 := va_up (m_fill (rtD of) D 121) 0 (if of = 0 then nI 3 else nI 0)
theorem Di_ok {D : Nat → Int32} {of : Nat} : ∀ j, j < 121 → DiA D of j = D0 of j := by
  intro j hj
  unfold DiA D0 va_up
  by_cases o : of = 0
  · rw [if_pos o, if_pos o]
    by_cases h0 : j = 0
    · rw [if_pos h0, if_pos h0]
    · rw [if_neg h0, if_neg h0]
      unfold m_fill rtD
      rw [if_pos hj, if_pos o]
      by_cases h3 : j < 3
      · rw [if_pos h3, if_pos h3]; rfl
      · rw [if_neg h3, if_neg h3]
        by_cases h9 : j < 9
        · rw [if_neg (by omega), if_pos h9, if_pos h9]
        · by_cases h39 : j < 39
          · rw [if_pos (show 9 ≤ j ∧ j ≤ 38 by omega), if_neg h9, if_pos h39]; rfl
          · rw [if_neg (show ¬ (9 ≤ j ∧ j ≤ 38) by omega), if_neg h9, if_neg h9, if_neg h39]
  · rw [if_neg o, if_neg o]
    by_cases h0 : j = 0
    · rw [if_pos h0]; rfl
    · rw [if_neg h0]
      unfold m_fill rtD
      rw [if_pos hj, if_neg o]; rfl
theorem Di_w {D : Nat → Int32} {of : Nat} (hof : of < 3) : wI of (DiA D of) := by
  rcases (show of = 0 ∨ of = 1 ∨ of = 2 by omega) with h | h | h
  · subst h; exact wI_0 (c := 0) (nw := 0) (by decide) (by decide) ((Di_ok 1 (by decide)).trans rfl) ((Di_ok 2 (by decide)).trans rfl)
  · subst h; exact wI_1 (c := 0) (by decide) ((Di_ok 0 (by decide)).trans rfl)
  · subst h; exact wI_2 (c := 0) (by decide) ((Di_ok 0 (by decide)).trans rfl)
def rtQ (I : mI) (R : mR) (out : TS) (v : Option Value) (I2 : mI) (_ : mJ) (R2 : mR) : Prop :=
  R2 = R ∧ v = some (.int (if out.f = 0 then nI 1 else nI 0)) ∧ I2 98 = va_up (I 98) 0 (nI out.f) ∧ I2 99 = va_up (I 99) 0 (if out.f = 0 then -1 else nI out.pl) ∧ (out.f = 0 → I2 104 = out.D) ∧ (∀ a, a ≠ 95 → a ≠ 98 → a ≠ 99 → a ≠ 104 → a ≠ 105 → I2 a = I a)
theorem tk_end {T : Nat → Int32} {len p : Nat} (hp : p ≤ len) (h : tkS T len p = 0) : tkB T len p = len := by
  have hb := tkB_le (T := T) hp
  by_cases c : len ≤ tkB T len p
  · omega
  · unfold tkS at h
    rw [if_neg c] at h
    by_cases h1 : smB T (tkB T len p) = true
    · rw [if_pos h1] at h; exact absurd h (by decide)
    · rw [if_neg h1] at h
      by_cases h2 : dgB T (tkB T len p) = true
      · rw [if_pos h2] at h
        by_cases h3 : tkE T len p - tkB T len p ≤ 2
        · rw [if_pos h3] at h; exact absurd h (by decide)
        · rw [if_neg h3] at h; exact absurd h (by decide)
      · rw [if_neg h2] at h
        by_cases h3 : T (tkB T len p) = nI 59
        · rw [if_pos h3] at h; exact absurd h (by decide)
        · rw [if_neg h3] at h; exact absurd h (by decide)
theorem c_tokJ {S : Nat × (Nat → Int32)} {d n : Nat} {I : mI} {J : mJ} {R : mR} (hn : 122 ≤ n) (hR : m_fin R) {len : Nat} (hl6 : len ≤ 600) (hby : byT (I 96) len) {F D A : Nat → Int32} {p : Nat} (hp : p ≤ len) (h9 : F 9 = nI p) (h10 : F 10 = nI len) : RUN S (d + 1) YM_token [.ref 95] (m_row (m_row (m_row I 95 F) 104 D) 105 A) J R n none (mRd I (tkG (I 96) len p F) D A) (m_up J 95 14 (tkW (I 96) len p)) R n := by
  have h := c_M_token (S := S) (d := d) (n := n) (I := m_row (m_row I 104 D) 105 A) (J := J) (R := R) (F := F) hn hR h10 hl6 hby hp h9
  rw [mRd_c, mRd_c] at h
  exact h
theorem r_readText {S : Nat × (Nat → Int32)} {d n : Nat} {I : mI} {J : mJ} {R : mR} (hn : 122 ≤ n) (hR : m_fin R) {len : Nat} (hl6 : len ≤ 600) (hby : byT (I 96) len) {F D A : Nat → Int32} (h10 : F 10 = nI len) {of : Nat} (hof : of < 3) : AW S (d + 8) YM_readText n n (rtQ I R (rdA (I 96) len of (len + 1) 0 (0, 0, -1, -1, DiA D of))) 0 [(0, .ref 95), (1, .int (nI of))] [] (m_row (m_row (m_row I 95 F) 104 D) 105 A) J R n := by
  generalize ho : rdA (I 96) len of (len + 1) 0 (0, 0, -1, -1, DiA D of) = out
  refine a_iconstN (a := 0) dM_readText_0 (by decide) ?_
  refine a_istore_n (lv' := [(2, .int (nI 0)), (0, .ref 95), (1, .int (nI of))]) dM_readText_1 rfl (by decide) rfl ?_
  refine a_mem (show (m_row (m_row (m_row I 95 F) 104 D) 105 A) = (m_row (m_row (m_row I 95 F) 104 (m_fill (rtD of) D 0)) 105 A) by rw [m_fill_0]) ?_
  refine a_locs (lv' := [(2, .int (nI 0)), (0, .ref 95), (1, .int (nI of))]) [0, 1, 2] rfl ?_
  refine l_fill hn hR hof ?_ 121 0 rfl
  by_cases o9 : of = 0
  · subst o9
    refine a_aload_n 1 dM_readText_56 rfl rfl ?_
    refine a_geta (r := 104) dM_readText_57 fl12_35 rfl ly_95 (by omega) (rf_95_18 hR) ?_
    refine a_iconstN (a := 0) dM_readText_60 (by decide) ?_
    refine a_iload_n 2 dM_readText_61 rfl rfl ?_
    refine a_if_ne (tgt := 69) dM_readText_62 (by decide) (fun c => False.elim (c rfl)) (fun _ => ?_)
    refine a_iconstN (a := 3) dM_readText_65 (by decide) ?_
    refine a_goto (tgt := 70) dM_readText_66 (by decide) ?_
    refine a_iastN (a := 0) dM_readText_70 ly_104 (by omega) (by omega) (by decide) ?_
    rw [show m_up (m_row (m_row (m_row I 95 F) 104 (m_fill (rtD 0) D 121)) 105 A) 104 0 (nI 3) = (m_row (m_row (m_row I 95 F) 104 (va_up (m_fill (rtD 0) D 121) 0 (nI 3))) 105 A) from (by rw [m_up_comm (by decide), m_up_r])]
    refine a_aload_n 1 dM_readText_71 rfl rfl ?_
    refine a_iconst (v := -1) dM_readText_72 (by decide) ?_
    refine a_puti dM_readText_73 fl12_164 rfl ly_95 (by omega) ?_
    rw [show m_up (m_row (m_row (m_row I 95 F) 104 (va_up (m_fill (rtD 0) D 121) 0 (nI 3))) 105 A) 95 20 (-1) = (m_row (m_row (m_row I 95 (va_up F 20 (-1))) 104 (va_up (m_fill (rtD 0) D 121) 0 (nI 3))) 105 A) from (by rw [m_up_comm (by decide), m_up_comm (by decide), m_up_r])]
    refine a_aload_n 1 dM_readText_76 rfl rfl ?_
    refine a_iconst (v := -1) dM_readText_77 (by decide) ?_
    refine a_puti dM_readText_78 fl12_171 rfl ly_95 (by omega) ?_
    rw [show m_up (m_row (m_row (m_row I 95 (va_up F 20 (-1))) 104 (va_up (m_fill (rtD 0) D 121) 0 (nI 3))) 105 A) 95 21 (-1) = (m_row (m_row (m_row I 95 (va_up (va_up F 20 (-1)) 21 (-1))) 104 (va_up (m_fill (rtD 0) D 121) 0 (nI 3))) 105 A) from (by rw [m_up_comm (by decide), m_up_comm (by decide), m_up_r])]
    refine a_aload_n 1 dM_readText_81 rfl rfl ?_
    refine a_iconstN (a := 0) dM_readText_82 (by decide) ?_
    refine a_puti dM_readText_83 fl12_110 rfl ly_95 (by omega) ?_
    rw [show m_up (m_row (m_row (m_row I 95 (va_up (va_up F 20 (-1)) 21 (-1))) 104 (va_up (m_fill (rtD 0) D 121) 0 (nI 3))) 105 A) 95 9 (nI 0) = (m_row (m_row (m_row I 95 (va_up (va_up (va_up F 9 (nI 0)) 20 (-1)) 21 (-1))) 104 (va_up (m_fill (rtD 0) D 121) 0 (nI 3))) 105 A) from (by rw [m_up_comm (by decide), m_up_comm (by decide), m_up_r, show va_up (va_up (va_up F 20 (-1)) 21 (-1)) 9 (nI 0) = (va_up (va_up (va_up F 9 (nI 0)) 20 (-1)) 21 (-1)) from ((va_uc (by decide)).trans (congrArg (fun g => va_up g 21 (-1)) ((va_uc (by decide)).trans (congrArg (fun g => va_up g 20 (-1)) rfl))))])]
    refine a_aload_n 1 dM_readText_86 rfl rfl ?_
    refine a_iconstN (a := 0) dM_readText_87 (by decide) ?_
    refine a_puti dM_readText_88 fl12_136 rfl ly_95 (by omega) ?_
    rw [show m_up (m_row (m_row (m_row I 95 (va_up (va_up (va_up F 9 (nI 0)) 20 (-1)) 21 (-1))) 104 (va_up (m_fill (rtD 0) D 121) 0 (nI 3))) 105 A) 95 16 (nI 0) = (m_row (m_row (m_row I 95 (va_up (va_up (va_up (va_up F 9 (nI 0)) 16 (nI 0)) 20 (-1)) 21 (-1))) 104 (va_up (m_fill (rtD 0) D 121) 0 (nI 3))) 105 A) from (by rw [m_up_comm (by decide), m_up_comm (by decide), m_up_r, show va_up (va_up (va_up (va_up F 9 (nI 0)) 20 (-1)) 21 (-1)) 16 (nI 0) = (va_up (va_up (va_up (va_up F 9 (nI 0)) 16 (nI 0)) 20 (-1)) 21 (-1)) from ((va_uc (by decide)).trans (congrArg (fun g => va_up g 21 (-1)) ((va_uc (by decide)).trans (congrArg (fun g => va_up g 20 (-1)) rfl))))])]
    refine a_aload_n 1 dM_readText_91 rfl rfl ?_
    refine a_callV (Q' := m_res none (mRd I (tkG (I 96) len 0 (va_up (va_up (va_up (va_up F 9 (nI 0)) 16 (nI 0)) 20 (-1)) 21 (-1))) (va_up (m_fill (rtD 0) D 121) 0 (nI 3)) A) (m_up J 95 14 (tkW (I 96) len 0)) R) (as := []) (st := []) dM_readText_92 ml12_154 rfl (Nat.le_of_ble_eq_true rfl) ly_95 rfl rfl (by decide) (by omega) (Nat.le_of_ble_eq_true rfl) rfl (Nat.le_refl _) (Nat.le_refl _) (c_tokJ (S := S) (d := d + 6) (n := n) (F := (va_up (va_up (va_up (va_up F 9 (nI 0)) 16 (nI 0)) 20 (-1)) 21 (-1))) (D := (va_up (m_fill (rtD 0) D 121) 0 (nI 3))) (A := A) hn hR hl6 hby (Nat.zero_le _) rfl h10) (m_go ?_)
    show AW _ _ _ _ _ _ _ _ [] _ _ _ _
    refine a_aload_n 1 dM_readText_95 rfl rfl ?_
    refine a_iload_n 2 dM_readText_96 rfl rfl ?_
    have eD : (va_up (m_fill (rtD 0) D 121) 0 (nI 3)) = DiA D 0 := by unfold DiA; rw [if_pos rfl]
    refine a_mem (show mRd I (tkG (I 96) len 0 (va_up (va_up (va_up (va_up F 9 (nI 0)) 16 (nI 0)) 20 (-1)) 21 (-1))) (va_up (m_fill (rtD 0) D 121) 0 (nI 3)) A = (m_row (m_row (m_row I 95 (tkG (I 96) len 0 (va_up (va_up (va_up (va_up F 9 (nI 0)) 16 (nI 0)) 20 (-1)) 21 (-1)))) 104 (DiA D 0)) 105 A) by rw [eD]) ?_
    have hS0 : RS (I 96) len 0 (0, 0) (-1) (-1) (F 22) (tkG (I 96) len 0 (va_up (va_up (va_up (va_up F 9 (nI 0)) 16 (nI 0)) 20 (-1)) 21 (-1))) := RS_tk hby (Nat.zero_le _) h10 (show 0 < 5 by decide) rfl (fun q => absurd rfl q) (fun q => absurd rfl q) rfl rfl rfl
    have hR0 : RR 0 (0, 0, -1, -1, DiA D 0) (0, 0) (-1) (-1) (DiA D 0) := ⟨rfl, fun q => absurd rfl q, fun _ => ⟨rfl, fun _ => ⟨rfl, rfl⟩⟩, Di_w (by omega)⟩
    refine a_callV (Q' := lnsQ I J R len 0 out) (as := [.int (nI 0)]) (st := []) dM_readText_97 ml12_239 rfl (Nat.le_of_ble_eq_true rfl) ly_95 rfl rfl (by decide) (by omega) (Nat.le_of_ble_eq_true rfl) rfl (Nat.le_refl _) (Nat.le_refl _) (by have q := c_lines (S := S) (d := d) (n := n) (J := J) (F := (tkG (I 96) len 0 (va_up (va_up (va_up (va_up F 9 (nI 0)) 16 (nI 0)) 20 (-1)) 21 (-1)))) (D := DiA D 0) (A := A) hn hR hl6 hby (of := 0) (by omega) (Nat.zero_le _) hS0 hR0 (r := len + 1) (by omega); rw [ho] at q; exact q) ?_
    intro v9 I9 J9 R9 ⟨e3, ⟨w9, e5⟩, hq9⟩
    rcases hq9 with ⟨e1, hf1, F9, D9, A9, h15, e4⟩ | ⟨e1, F9, D9, A9, p9, x9, gh9, gl9, g9, st9, hS9, hz9, hp9, hR9, ho9, e4⟩
    · rw [e1, e5, e3, e4]
      show AW _ _ _ _ _ _ _ _ [.int 0] (m_row (m_row (m_row I 95 F9) 104 D9) 105 A9) _ _ _
      refine a_istore_n (lv' := [(2, .int 0), (0, .ref 95), (1, .int (nI 0))]) dM_readText_100 rfl (by decide) rfl ?_
      refine a_iload_n 0 dM_readText_101 rfl rfl ?_
      refine a_if_eq (tgt := 151) dM_readText_102 (by decide) (fun _ => ?_) (fun c => False.elim (c rfl))
      refine a_mem (show (m_row (m_row (m_row I 95 F9) 104 D9) 105 A9) = (m_row (m_row (m_row (m_row (m_row I 95 F9) 98 (I 98)) 99 (I 99)) 104 D9) 105 A9) from mR5.symm) ?_
      refine a_aload_n 1 dM_readText_151 rfl rfl ?_
      refine a_geta (r := 98) dM_readText_152 fl12_17 rfl ly_95 (by omega) (rf_95_3 hR) ?_
      refine a_iconstN (a := 0) dM_readText_155 (by decide) ?_
      refine a_iload_n 0 dM_readText_156 rfl rfl ?_
      refine a_if_eq (tgt := 167) dM_readText_157 (by decide) (fun _ => ?_) (fun c => False.elim (c rfl))
      refine a_iconstN (a := 1) dM_readText_167 (by decide) ?_
      refine a_iastN (a := 0) dM_readText_168 ly_98 (by omega) (by omega) (by decide) ?_
      rw [show m_up (m_row (m_row (m_row (m_row (m_row I 95 F9) 98 (I 98)) 99 (I 99)) 104 D9) 105 A9) 98 0 (nI 1) = (m_row (m_row (m_row (m_row (m_row I 95 F9) 98 (va_up (I 98) 0 (nI 1))) 99 (I 99)) 104 D9) 105 A9) from (by rw [m_up_comm (by decide), m_up_comm (by decide), m_up_comm (by decide), m_up_r])]
      refine a_aload_n 1 dM_readText_169 rfl rfl ?_
      refine a_geta (r := 99) dM_readText_170 fl12_20 rfl ly_95 (by omega) (rf_95_4 hR) ?_
      refine a_iconstN (a := 0) dM_readText_173 (by decide) ?_
      refine a_iload_n 0 dM_readText_174 rfl rfl ?_
      refine a_if_ne (tgt := 185) dM_readText_175 (by decide) (fun c => False.elim (c rfl)) (fun _ => ?_)
      refine a_aload_n 1 dM_readText_178 rfl rfl ?_
      refine a_geti dM_readText_179 fl12_133 rfl ly_95 (by omega) ?_
      rw [show (m_row (m_row (m_row (m_row (m_row I 95 F9) 98 (va_up (I 98) 0 (nI 1))) 99 (I 99)) 104 D9) 105 A9) 95 15 = (nI out.pl) from h15]
      refine a_goto (tgt := 200) dM_readText_182 (by decide) ?_
      refine a_iastN (a := 0) dM_readText_200 ly_99 (by omega) (by omega) (by decide) ?_
      rw [show m_up (m_row (m_row (m_row (m_row (m_row I 95 F9) 98 (va_up (I 98) 0 (nI 1))) 99 (I 99)) 104 D9) 105 A9) 99 0 (nI out.pl) = (m_row (m_row (m_row (m_row (m_row I 95 F9) 98 (va_up (I 98) 0 (nI 1))) 99 (va_up (I 99) 0 (nI out.pl))) 104 D9) 105 A9) from (by rw [m_up_comm (by decide), m_up_comm (by decide), m_up_r])]
      refine a_aload_n 1 dM_readText_201 rfl rfl ?_
      refine a_geta (r := 98) dM_readText_202 fl12_17 rfl ly_95 (by omega) (rf_95_3 hR) ?_
      refine a_iconstN (a := 0) dM_readText_205 (by decide) ?_
      refine a_ialdN (a := 0) dM_readText_206 ly_98 (by omega) (by omega) (by decide) ?_
      rw [show (m_row (m_row (m_row (m_row (m_row I 95 F9) 98 (va_up (I 98) 0 (nI 1))) 99 (va_up (I 99) 0 (nI out.pl))) 104 D9) 105 A9) 98 0 = (nI 1) from rfl]
      refine a_if_ne (tgt := 214) dM_readText_207 (by decide) (fun _ => ?_) (fun c => False.elim (absurd c (by decide)))
      refine a_iconstN (a := 0) dM_readText_214 (by decide) ?_
      exact a_zret dM_readText_215 rfl (by rfl) ⟨rfl, by rw [hf1]; rfl, by rw [hf1]; rfl, by rw [hf1, if_neg (by decide)]; rfl, fun q => absurd (hf1.symm.trans q) (by decide), (fun a h1 h2 h3 h4 h5 => (m_row_ne h5).trans ((m_row_ne h4).trans ((m_row_ne h3).trans ((m_row_ne h2).trans (m_row_ne h1)))))⟩
    · rw [e1, e5, e3, e4]
      show AW _ _ _ _ _ _ _ _ [.int 1] (m_row (m_row (m_row I 95 F9) 104 D9) 105 A9) _ _ _
      have h16 : F9 16 = nI st9.f := by rw [hS9.h16, hR9.1]
      have f5 : st9.f < 5 := by have := hS9.f5; rw [hR9.1] at this; exact this
      by_cases z : st9.f = 0
      · obtain ⟨hD, hg⟩ := hR9.2.2.1 z
        have hg := hg rfl
        by_cases g : st9.gh < st9.D 0 ∧ st9.gl < st9.D 1
        · have oz : out = st9 := by rw [ho9]; unfold finA; rw [if_neg (fun q => q.2.2 g)]
          refine a_istore_n (lv' := [(2, .int 1), (0, .ref 95), (1, .int (nI 0))]) dM_readText_100 rfl (by decide) rfl ?_
          refine a_iload_n 0 dM_readText_101 rfl rfl ?_
          refine a_if_eq (tgt := 151) dM_readText_102 (by decide) (fun c => False.elim (absurd c (by decide))) (fun _ => ?_)
          refine a_iload_n 2 dM_readText_105 rfl rfl ?_
          refine a_if_ne (tgt := 151) dM_readText_106 (by decide) (fun c => False.elim (c rfl)) (fun _ => ?_)
          refine a_aload_n 1 dM_readText_109 rfl rfl ?_
          refine a_geti dM_readText_110 fl12_136 rfl ly_95 (by omega) ?_
          rw [show (m_row (m_row (m_row I 95 F9) 104 D9) 105 A9) 95 16 = (nI 0) from (h16.trans (by rw [z]))]
          refine a_if_ne (tgt := 151) dM_readText_113 (by decide) (fun c => False.elim (c rfl)) (fun _ => ?_)
          refine a_aload_n 1 dM_readText_116 rfl rfl ?_
          refine a_geti dM_readText_117 fl12_164 rfl ly_95 (by omega) ?_
          rw [show (m_row (m_row (m_row I 95 F9) 104 D9) 105 A9) 95 20 = (TS.gh st9) from (hS9.h20.trans hg.1)]
          refine a_aload_n 1 dM_readText_120 rfl rfl ?_
          refine a_geta (r := 104) dM_readText_121 fl12_35 rfl ly_95 (by omega) (rf_95_18 hR) ?_
          refine a_iconstN (a := 0) dM_readText_124 (by decide) ?_
          refine a_ialdN (a := 0) dM_readText_125 ly_104 (by omega) (by omega) (by decide) ?_
          rw [show (m_row (m_row (m_row I 95 F9) 104 D9) 105 A9) 104 0 = D9 0 from rfl]
          rw [show (D9 0) = (TS.D st9 0) from (by rw [hD])]
          refine a_icmp_ge (tgt := 142) dM_readText_126 (by decide) (fun c => False.elim (Int32.not_lt.mpr c g.1)) (fun _ => ?_)
          refine a_aload_n 1 dM_readText_129 rfl rfl ?_
          refine a_geti dM_readText_130 fl12_171 rfl ly_95 (by omega) ?_
          rw [show (m_row (m_row (m_row I 95 F9) 104 D9) 105 A9) 95 21 = (TS.gl st9) from (hS9.h21.trans hg.2)]
          refine a_aload_n 1 dM_readText_133 rfl rfl ?_
          refine a_geta (r := 104) dM_readText_134 fl12_35 rfl ly_95 (by omega) (rf_95_18 hR) ?_
          refine a_iconstN (a := 1) dM_readText_137 (by decide) ?_
          refine a_ialdN (a := 1) dM_readText_138 ly_104 (by omega) (by omega) (by decide) ?_
          rw [show (m_row (m_row (m_row I 95 F9) 104 D9) 105 A9) 104 1 = D9 1 from rfl]
          rw [show (D9 1) = (TS.D st9 1) from (by rw [hD])]
          refine a_icmp_lt (tgt := 151) dM_readText_139 (by decide) (fun _ => ?_) (fun c => False.elim (c g.2))
          refine a_mem (show (m_row (m_row (m_row I 95 F9) 104 D9) 105 A9) = (m_row (m_row (m_row (m_row (m_row I 95 F9) 98 (I 98)) 99 (I 99)) 104 D9) 105 A9) from mR5.symm) ?_
          refine a_aload_n 1 dM_readText_151 rfl rfl ?_
          refine a_geta (r := 98) dM_readText_152 fl12_17 rfl ly_95 (by omega) (rf_95_3 hR) ?_
          refine a_iconstN (a := 0) dM_readText_155 (by decide) ?_
          refine a_iload_n 0 dM_readText_156 rfl rfl ?_
          refine a_if_eq (tgt := 167) dM_readText_157 (by decide) (fun c => False.elim (absurd c (by decide))) (fun _ => ?_)
          refine a_aload_n 1 dM_readText_160 rfl rfl ?_
          refine a_geti dM_readText_161 fl12_136 rfl ly_95 (by omega) ?_
          rw [show (m_row (m_row (m_row (m_row (m_row I 95 F9) 98 (I 98)) 99 (I 99)) 104 D9) 105 A9) 95 16 = (nI 0) from (h16.trans (by rw [z]))]
          refine a_goto (tgt := 168) dM_readText_164 (by decide) ?_
          refine a_iastN (a := 0) dM_readText_168 ly_98 (by omega) (by omega) (by decide) ?_
          rw [show m_up (m_row (m_row (m_row (m_row (m_row I 95 F9) 98 (I 98)) 99 (I 99)) 104 D9) 105 A9) 98 0 (nI 0) = (m_row (m_row (m_row (m_row (m_row I 95 F9) 98 (va_up (I 98) 0 (nI 0))) 99 (I 99)) 104 D9) 105 A9) from (by rw [m_up_comm (by decide), m_up_comm (by decide), m_up_comm (by decide), m_up_r])]
          refine a_aload_n 1 dM_readText_169 rfl rfl ?_
          refine a_geta (r := 99) dM_readText_170 fl12_20 rfl ly_95 (by omega) (rf_95_4 hR) ?_
          refine a_iconstN (a := 0) dM_readText_173 (by decide) ?_
          refine a_iload_n 0 dM_readText_174 rfl rfl ?_
          refine a_if_ne (tgt := 185) dM_readText_175 (by decide) (fun _ => ?_) (fun c => False.elim (absurd c (by decide)))
          refine a_aload_n 1 dM_readText_185 rfl rfl ?_
          refine a_geti dM_readText_186 fl12_136 rfl ly_95 (by omega) ?_
          rw [show (m_row (m_row (m_row (m_row (m_row I 95 F9) 98 (va_up (I 98) 0 (nI 0))) 99 (I 99)) 104 D9) 105 A9) 95 16 = (nI 0) from (h16.trans (by rw [z]))]
          refine a_if_le (tgt := 199) dM_readText_189 (by decide) (fun _ => ?_) (fun c => False.elim (c (by decide)))
          refine a_iconst (v := -1) dM_readText_199 (by decide) ?_
          refine a_iastN (a := 0) dM_readText_200 ly_99 (by omega) (by omega) (by decide) ?_
          rw [show m_up (m_row (m_row (m_row (m_row (m_row I 95 F9) 98 (va_up (I 98) 0 (nI 0))) 99 (I 99)) 104 D9) 105 A9) 99 0 (-1) = (m_row (m_row (m_row (m_row (m_row I 95 F9) 98 (va_up (I 98) 0 (nI 0))) 99 (va_up (I 99) 0 (-1))) 104 D9) 105 A9) from (by rw [m_up_comm (by decide), m_up_comm (by decide), m_up_r])]
          refine a_aload_n 1 dM_readText_201 rfl rfl ?_
          refine a_geta (r := 98) dM_readText_202 fl12_17 rfl ly_95 (by omega) (rf_95_3 hR) ?_
          refine a_iconstN (a := 0) dM_readText_205 (by decide) ?_
          refine a_ialdN (a := 0) dM_readText_206 ly_98 (by omega) (by omega) (by decide) ?_
          rw [show (m_row (m_row (m_row (m_row (m_row I 95 F9) 98 (va_up (I 98) 0 (nI 0))) 99 (va_up (I 99) 0 (-1))) 104 D9) 105 A9) 98 0 = (nI 0) from rfl]
          refine a_if_ne (tgt := 214) dM_readText_207 (by decide) (fun c => False.elim (c rfl)) (fun _ => ?_)
          refine a_iconstN (a := 1) dM_readText_210 (by decide) ?_
          refine a_goto (tgt := 215) dM_readText_211 (by decide) ?_
          exact a_zret dM_readText_215 rfl (by rfl) ⟨rfl, by rw [oz, z]; rfl, by rw [oz, z]; rfl, by rw [oz, if_pos z]; rfl, fun _ => by rw [oz]; exact (hR9.2.2.1 z).1, (fun a h1 h2 h3 h4 h5 => (m_row_ne h5).trans ((m_row_ne h4).trans ((m_row_ne h3).trans ((m_row_ne h2).trans (m_row_ne h1)))))⟩
        · have oz : out = (4, len, st9.gh, st9.gl, st9.D) := by rw [ho9]; unfold finA; rw [if_pos ⟨z, rfl, g⟩]
          have xz : x9.1 = 0 := hR9.1.trans z
          by_cases g1 : st9.gh < st9.D 0
          · have g2 : ¬ st9.gl < st9.D 1 := fun q => g ⟨g1, q⟩
            refine a_istore_n (lv' := [(2, .int 1), (0, .ref 95), (1, .int (nI 0))]) dM_readText_100 rfl (by decide) rfl ?_
            refine a_iload_n 0 dM_readText_101 rfl rfl ?_
            refine a_if_eq (tgt := 151) dM_readText_102 (by decide) (fun c => False.elim (absurd c (by decide))) (fun _ => ?_)
            refine a_iload_n 2 dM_readText_105 rfl rfl ?_
            refine a_if_ne (tgt := 151) dM_readText_106 (by decide) (fun c => False.elim (c rfl)) (fun _ => ?_)
            refine a_aload_n 1 dM_readText_109 rfl rfl ?_
            refine a_geti dM_readText_110 fl12_136 rfl ly_95 (by omega) ?_
            rw [show (m_row (m_row (m_row I 95 F9) 104 D9) 105 A9) 95 16 = (nI 0) from (h16.trans (by rw [z]))]
            refine a_if_ne (tgt := 151) dM_readText_113 (by decide) (fun c => False.elim (c rfl)) (fun _ => ?_)
            refine a_aload_n 1 dM_readText_116 rfl rfl ?_
            refine a_geti dM_readText_117 fl12_164 rfl ly_95 (by omega) ?_
            rw [show (m_row (m_row (m_row I 95 F9) 104 D9) 105 A9) 95 20 = (TS.gh st9) from (hS9.h20.trans hg.1)]
            refine a_aload_n 1 dM_readText_120 rfl rfl ?_
            refine a_geta (r := 104) dM_readText_121 fl12_35 rfl ly_95 (by omega) (rf_95_18 hR) ?_
            refine a_iconstN (a := 0) dM_readText_124 (by decide) ?_
            refine a_ialdN (a := 0) dM_readText_125 ly_104 (by omega) (by omega) (by decide) ?_
            rw [show (m_row (m_row (m_row I 95 F9) 104 D9) 105 A9) 104 0 = D9 0 from rfl]
            rw [show (D9 0) = (TS.D st9 0) from (by rw [hD])]
            refine a_icmp_ge (tgt := 142) dM_readText_126 (by decide) (fun c => False.elim (Int32.not_lt.mpr c g1)) (fun _ => ?_)
            refine a_aload_n 1 dM_readText_129 rfl rfl ?_
            refine a_geti dM_readText_130 fl12_171 rfl ly_95 (by omega) ?_
            rw [show (m_row (m_row (m_row I 95 F9) 104 D9) 105 A9) 95 21 = (TS.gl st9) from (hS9.h21.trans hg.2)]
            refine a_aload_n 1 dM_readText_133 rfl rfl ?_
            refine a_geta (r := 104) dM_readText_134 fl12_35 rfl ly_95 (by omega) (rf_95_18 hR) ?_
            refine a_iconstN (a := 1) dM_readText_137 (by decide) ?_
            refine a_ialdN (a := 1) dM_readText_138 ly_104 (by omega) (by omega) (by decide) ?_
            rw [show (m_row (m_row (m_row I 95 F9) 104 D9) 105 A9) 104 1 = D9 1 from rfl]
            rw [show (D9 1) = (TS.D st9 1) from (by rw [hD])]
            refine a_icmp_lt (tgt := 151) dM_readText_139 (by decide) (fun c => False.elim (g2 c)) (fun _ => ?_)
            refine a_aload_n 1 dM_readText_142 rfl rfl ?_
            refine a_iconstN (a := 4) dM_readText_143 (by decide) ?_
            refine a_aload_n 1 dM_readText_144 rfl rfl ?_
            refine a_geti dM_readText_145 fl12_120 rfl ly_95 (by omega) ?_
            rw [show (m_row (m_row (m_row I 95 F9) 104 D9) 105 A9) 95 11 = (nI len) from (by rw [show (m_row (m_row (m_row I 95 F9) 104 D9) 105 A9) 95 11 = F9 11 from rfl, hS9.h11, tk_end hp9 hz9])]
            refine a_callV (Q' := m_res none (m_row (m_row (m_row I 95 (ltF x9 F9 4 len)) 104 D9) 105 A9) (m_up J 95 14 w9) R) (as := [.int (nI 4), .int (nI len)]) (st := []) dM_readText_148 ml12_146 rfl (Nat.le_of_ble_eq_true rfl) ly_95 rfl rfl (by decide) (by omega) (Nat.le_of_ble_eq_true rfl) rfl (Nat.le_refl _) (Nat.le_refl _) (c_later (F := F9) (D := D9) (A := A9) hn hR hS9.f5 hS9.h16 hS9.h17 (by omega) (fun q => absurd xz q)) (m_go ?_)
            show AW _ _ _ _ _ _ _ _ [] _ _ _ _
            refine a_mem (show (m_row (m_row (m_row I 95 (ltF x9 F9 4 len)) 104 D9) 105 A9) = (m_row (m_row (m_row (m_row (m_row I 95 (ltF x9 F9 4 len)) 98 (I 98)) 99 (I 99)) 104 D9) 105 A9) from mR5.symm) ?_
            refine a_aload_n 1 dM_readText_151 rfl rfl ?_
            refine a_geta (r := 98) dM_readText_152 fl12_17 rfl ly_95 (by omega) (rf_95_3 hR) ?_
            refine a_iconstN (a := 0) dM_readText_155 (by decide) ?_
            refine a_iload_n 0 dM_readText_156 rfl rfl ?_
            refine a_if_eq (tgt := 167) dM_readText_157 (by decide) (fun c => False.elim (absurd c (by decide))) (fun _ => ?_)
            refine a_aload_n 1 dM_readText_160 rfl rfl ?_
            refine a_geti dM_readText_161 fl12_136 rfl ly_95 (by omega) ?_
            rw [show (m_row (m_row (m_row (m_row (m_row I 95 (ltF x9 F9 4 len)) 98 (I 98)) 99 (I 99)) 104 D9) 105 A9) 95 16 = (nI 4) from (by show (ltF x9 F9 4 len) 16 = nI 4; unfold ltF; rw [if_pos xz]; rfl)]
            refine a_goto (tgt := 168) dM_readText_164 (by decide) ?_
            refine a_iastN (a := 0) dM_readText_168 ly_98 (by omega) (by omega) (by decide) ?_
            rw [show m_up (m_row (m_row (m_row (m_row (m_row I 95 (ltF x9 F9 4 len)) 98 (I 98)) 99 (I 99)) 104 D9) 105 A9) 98 0 (nI 4) = (m_row (m_row (m_row (m_row (m_row I 95 (ltF x9 F9 4 len)) 98 (va_up (I 98) 0 (nI 4))) 99 (I 99)) 104 D9) 105 A9) from (by rw [m_up_comm (by decide), m_up_comm (by decide), m_up_comm (by decide), m_up_r])]
            refine a_aload_n 1 dM_readText_169 rfl rfl ?_
            refine a_geta (r := 99) dM_readText_170 fl12_20 rfl ly_95 (by omega) (rf_95_4 hR) ?_
            refine a_iconstN (a := 0) dM_readText_173 (by decide) ?_
            refine a_iload_n 0 dM_readText_174 rfl rfl ?_
            refine a_if_ne (tgt := 185) dM_readText_175 (by decide) (fun _ => ?_) (fun c => False.elim (absurd c (by decide)))
            refine a_aload_n 1 dM_readText_185 rfl rfl ?_
            refine a_geti dM_readText_186 fl12_136 rfl ly_95 (by omega) ?_
            rw [show (m_row (m_row (m_row (m_row (m_row I 95 (ltF x9 F9 4 len)) 98 (va_up (I 98) 0 (nI 4))) 99 (I 99)) 104 D9) 105 A9) 95 16 = (nI 4) from (by show (ltF x9 F9 4 len) 16 = nI 4; unfold ltF; rw [if_pos xz]; rfl)]
            refine a_if_le (tgt := 199) dM_readText_189 (by decide) (fun c => False.elim (absurd c (by decide))) (fun _ => ?_)
            refine a_aload_n 1 dM_readText_192 rfl rfl ?_
            refine a_geti dM_readText_193 fl12_139 rfl ly_95 (by omega) ?_
            rw [show (m_row (m_row (m_row (m_row (m_row I 95 (ltF x9 F9 4 len)) 98 (va_up (I 98) 0 (nI 4))) 99 (I 99)) 104 D9) 105 A9) 95 17 = (nI len) from (by show (ltF x9 F9 4 len) 17 = nI len; unfold ltF; rw [if_pos xz]; rfl)]
            refine a_goto (tgt := 200) dM_readText_196 (by decide) ?_
            refine a_iastN (a := 0) dM_readText_200 ly_99 (by omega) (by omega) (by decide) ?_
            rw [show m_up (m_row (m_row (m_row (m_row (m_row I 95 (ltF x9 F9 4 len)) 98 (va_up (I 98) 0 (nI 4))) 99 (I 99)) 104 D9) 105 A9) 99 0 (nI len) = (m_row (m_row (m_row (m_row (m_row I 95 (ltF x9 F9 4 len)) 98 (va_up (I 98) 0 (nI 4))) 99 (va_up (I 99) 0 (nI len))) 104 D9) 105 A9) from (by rw [m_up_comm (by decide), m_up_comm (by decide), m_up_r])]
            refine a_aload_n 1 dM_readText_201 rfl rfl ?_
            refine a_geta (r := 98) dM_readText_202 fl12_17 rfl ly_95 (by omega) (rf_95_3 hR) ?_
            refine a_iconstN (a := 0) dM_readText_205 (by decide) ?_
            refine a_ialdN (a := 0) dM_readText_206 ly_98 (by omega) (by omega) (by decide) ?_
            rw [show (m_row (m_row (m_row (m_row (m_row I 95 (ltF x9 F9 4 len)) 98 (va_up (I 98) 0 (nI 4))) 99 (va_up (I 99) 0 (nI len))) 104 D9) 105 A9) 98 0 = (nI 4) from rfl]
            refine a_if_ne (tgt := 214) dM_readText_207 (by decide) (fun _ => ?_) (fun c => False.elim (absurd c (by decide)))
            refine a_iconstN (a := 0) dM_readText_214 (by decide) ?_
            exact a_zret dM_readText_215 rfl (by rfl) ⟨rfl, by rw [oz]; rfl, by rw [oz]; rfl, by rw [oz]; rfl, fun q => absurd (show (4 : Nat) = 0 by rw [oz] at q; exact q) (by decide), (fun a h1 h2 h3 h4 h5 => (m_row_ne h5).trans ((m_row_ne h4).trans ((m_row_ne h3).trans ((m_row_ne h2).trans (m_row_ne h1)))))⟩
          ·
            refine a_istore_n (lv' := [(2, .int 1), (0, .ref 95), (1, .int (nI 0))]) dM_readText_100 rfl (by decide) rfl ?_
            refine a_iload_n 0 dM_readText_101 rfl rfl ?_
            refine a_if_eq (tgt := 151) dM_readText_102 (by decide) (fun c => False.elim (absurd c (by decide))) (fun _ => ?_)
            refine a_iload_n 2 dM_readText_105 rfl rfl ?_
            refine a_if_ne (tgt := 151) dM_readText_106 (by decide) (fun c => False.elim (c rfl)) (fun _ => ?_)
            refine a_aload_n 1 dM_readText_109 rfl rfl ?_
            refine a_geti dM_readText_110 fl12_136 rfl ly_95 (by omega) ?_
            rw [show (m_row (m_row (m_row I 95 F9) 104 D9) 105 A9) 95 16 = (nI 0) from (h16.trans (by rw [z]))]
            refine a_if_ne (tgt := 151) dM_readText_113 (by decide) (fun c => False.elim (c rfl)) (fun _ => ?_)
            refine a_aload_n 1 dM_readText_116 rfl rfl ?_
            refine a_geti dM_readText_117 fl12_164 rfl ly_95 (by omega) ?_
            rw [show (m_row (m_row (m_row I 95 F9) 104 D9) 105 A9) 95 20 = (TS.gh st9) from (hS9.h20.trans hg.1)]
            refine a_aload_n 1 dM_readText_120 rfl rfl ?_
            refine a_geta (r := 104) dM_readText_121 fl12_35 rfl ly_95 (by omega) (rf_95_18 hR) ?_
            refine a_iconstN (a := 0) dM_readText_124 (by decide) ?_
            refine a_ialdN (a := 0) dM_readText_125 ly_104 (by omega) (by omega) (by decide) ?_
            rw [show (m_row (m_row (m_row I 95 F9) 104 D9) 105 A9) 104 0 = D9 0 from rfl]
            rw [show (D9 0) = (TS.D st9 0) from (by rw [hD])]
            refine a_icmp_ge (tgt := 142) dM_readText_126 (by decide) (fun _ => ?_) (fun c => False.elim (g1 (Int32.not_le.mp c)))
            refine a_aload_n 1 dM_readText_142 rfl rfl ?_
            refine a_iconstN (a := 4) dM_readText_143 (by decide) ?_
            refine a_aload_n 1 dM_readText_144 rfl rfl ?_
            refine a_geti dM_readText_145 fl12_120 rfl ly_95 (by omega) ?_
            rw [show (m_row (m_row (m_row I 95 F9) 104 D9) 105 A9) 95 11 = (nI len) from (by rw [show (m_row (m_row (m_row I 95 F9) 104 D9) 105 A9) 95 11 = F9 11 from rfl, hS9.h11, tk_end hp9 hz9])]
            refine a_callV (Q' := m_res none (m_row (m_row (m_row I 95 (ltF x9 F9 4 len)) 104 D9) 105 A9) (m_up J 95 14 w9) R) (as := [.int (nI 4), .int (nI len)]) (st := []) dM_readText_148 ml12_146 rfl (Nat.le_of_ble_eq_true rfl) ly_95 rfl rfl (by decide) (by omega) (Nat.le_of_ble_eq_true rfl) rfl (Nat.le_refl _) (Nat.le_refl _) (c_later (F := F9) (D := D9) (A := A9) hn hR hS9.f5 hS9.h16 hS9.h17 (by omega) (fun q => absurd xz q)) (m_go ?_)
            show AW _ _ _ _ _ _ _ _ [] _ _ _ _
            refine a_mem (show (m_row (m_row (m_row I 95 (ltF x9 F9 4 len)) 104 D9) 105 A9) = (m_row (m_row (m_row (m_row (m_row I 95 (ltF x9 F9 4 len)) 98 (I 98)) 99 (I 99)) 104 D9) 105 A9) from mR5.symm) ?_
            refine a_aload_n 1 dM_readText_151 rfl rfl ?_
            refine a_geta (r := 98) dM_readText_152 fl12_17 rfl ly_95 (by omega) (rf_95_3 hR) ?_
            refine a_iconstN (a := 0) dM_readText_155 (by decide) ?_
            refine a_iload_n 0 dM_readText_156 rfl rfl ?_
            refine a_if_eq (tgt := 167) dM_readText_157 (by decide) (fun c => False.elim (absurd c (by decide))) (fun _ => ?_)
            refine a_aload_n 1 dM_readText_160 rfl rfl ?_
            refine a_geti dM_readText_161 fl12_136 rfl ly_95 (by omega) ?_
            rw [show (m_row (m_row (m_row (m_row (m_row I 95 (ltF x9 F9 4 len)) 98 (I 98)) 99 (I 99)) 104 D9) 105 A9) 95 16 = (nI 4) from (by show (ltF x9 F9 4 len) 16 = nI 4; unfold ltF; rw [if_pos xz]; rfl)]
            refine a_goto (tgt := 168) dM_readText_164 (by decide) ?_
            refine a_iastN (a := 0) dM_readText_168 ly_98 (by omega) (by omega) (by decide) ?_
            rw [show m_up (m_row (m_row (m_row (m_row (m_row I 95 (ltF x9 F9 4 len)) 98 (I 98)) 99 (I 99)) 104 D9) 105 A9) 98 0 (nI 4) = (m_row (m_row (m_row (m_row (m_row I 95 (ltF x9 F9 4 len)) 98 (va_up (I 98) 0 (nI 4))) 99 (I 99)) 104 D9) 105 A9) from (by rw [m_up_comm (by decide), m_up_comm (by decide), m_up_comm (by decide), m_up_r])]
            refine a_aload_n 1 dM_readText_169 rfl rfl ?_
            refine a_geta (r := 99) dM_readText_170 fl12_20 rfl ly_95 (by omega) (rf_95_4 hR) ?_
            refine a_iconstN (a := 0) dM_readText_173 (by decide) ?_
            refine a_iload_n 0 dM_readText_174 rfl rfl ?_
            refine a_if_ne (tgt := 185) dM_readText_175 (by decide) (fun _ => ?_) (fun c => False.elim (absurd c (by decide)))
            refine a_aload_n 1 dM_readText_185 rfl rfl ?_
            refine a_geti dM_readText_186 fl12_136 rfl ly_95 (by omega) ?_
            rw [show (m_row (m_row (m_row (m_row (m_row I 95 (ltF x9 F9 4 len)) 98 (va_up (I 98) 0 (nI 4))) 99 (I 99)) 104 D9) 105 A9) 95 16 = (nI 4) from (by show (ltF x9 F9 4 len) 16 = nI 4; unfold ltF; rw [if_pos xz]; rfl)]
            refine a_if_le (tgt := 199) dM_readText_189 (by decide) (fun c => False.elim (absurd c (by decide))) (fun _ => ?_)
            refine a_aload_n 1 dM_readText_192 rfl rfl ?_
            refine a_geti dM_readText_193 fl12_139 rfl ly_95 (by omega) ?_
            rw [show (m_row (m_row (m_row (m_row (m_row I 95 (ltF x9 F9 4 len)) 98 (va_up (I 98) 0 (nI 4))) 99 (I 99)) 104 D9) 105 A9) 95 17 = (nI len) from (by show (ltF x9 F9 4 len) 17 = nI len; unfold ltF; rw [if_pos xz]; rfl)]
            refine a_goto (tgt := 200) dM_readText_196 (by decide) ?_
            refine a_iastN (a := 0) dM_readText_200 ly_99 (by omega) (by omega) (by decide) ?_
            rw [show m_up (m_row (m_row (m_row (m_row (m_row I 95 (ltF x9 F9 4 len)) 98 (va_up (I 98) 0 (nI 4))) 99 (I 99)) 104 D9) 105 A9) 99 0 (nI len) = (m_row (m_row (m_row (m_row (m_row I 95 (ltF x9 F9 4 len)) 98 (va_up (I 98) 0 (nI 4))) 99 (va_up (I 99) 0 (nI len))) 104 D9) 105 A9) from (by rw [m_up_comm (by decide), m_up_comm (by decide), m_up_r])]
            refine a_aload_n 1 dM_readText_201 rfl rfl ?_
            refine a_geta (r := 98) dM_readText_202 fl12_17 rfl ly_95 (by omega) (rf_95_3 hR) ?_
            refine a_iconstN (a := 0) dM_readText_205 (by decide) ?_
            refine a_ialdN (a := 0) dM_readText_206 ly_98 (by omega) (by omega) (by decide) ?_
            rw [show (m_row (m_row (m_row (m_row (m_row I 95 (ltF x9 F9 4 len)) 98 (va_up (I 98) 0 (nI 4))) 99 (va_up (I 99) 0 (nI len))) 104 D9) 105 A9) 98 0 = (nI 4) from rfl]
            refine a_if_ne (tgt := 214) dM_readText_207 (by decide) (fun _ => ?_) (fun c => False.elim (absurd c (by decide)))
            refine a_iconstN (a := 0) dM_readText_214 (by decide) ?_
            exact a_zret dM_readText_215 rfl (by rfl) ⟨rfl, by rw [oz]; rfl, by rw [oz]; rfl, by rw [oz]; rfl, fun q => absurd (show (4 : Nat) = 0 by rw [oz] at q; exact q) (by decide), (fun a h1 h2 h3 h4 h5 => (m_row_ne h5).trans ((m_row_ne h4).trans ((m_row_ne h3).trans ((m_row_ne h2).trans (m_row_ne h1)))))⟩
      · have oz : out = st9 := by rw [ho9]; unfold finA; rw [if_neg (fun q => z q.1)]
        have h17 : F9 17 = nI st9.pl := by rw [hS9.h17 (fun q => z (hR9.1.symm.trans q)), hR9.2.1 z]
        refine a_istore_n (lv' := [(2, .int 1), (0, .ref 95), (1, .int (nI 0))]) dM_readText_100 rfl (by decide) rfl ?_
        refine a_iload_n 0 dM_readText_101 rfl rfl ?_
        refine a_if_eq (tgt := 151) dM_readText_102 (by decide) (fun c => False.elim (absurd c (by decide))) (fun _ => ?_)
        refine a_iload_n 2 dM_readText_105 rfl rfl ?_
        refine a_if_ne (tgt := 151) dM_readText_106 (by decide) (fun c => False.elim (c rfl)) (fun _ => ?_)
        refine a_aload_n 1 dM_readText_109 rfl rfl ?_
        refine a_geti dM_readText_110 fl12_136 rfl ly_95 (by omega) ?_
        rw [show (m_row (m_row (m_row I 95 F9) 104 D9) 105 A9) 95 16 = (nI st9.f) from h16]
        refine a_if_ne (tgt := 151) dM_readText_113 (by decide) (fun _ => ?_) (fun c => False.elim (z ((nI_eq (by omega) (by decide)).mp c)))
        refine a_mem (show (m_row (m_row (m_row I 95 F9) 104 D9) 105 A9) = (m_row (m_row (m_row (m_row (m_row I 95 F9) 98 (I 98)) 99 (I 99)) 104 D9) 105 A9) from mR5.symm) ?_
        refine a_aload_n 1 dM_readText_151 rfl rfl ?_
        refine a_geta (r := 98) dM_readText_152 fl12_17 rfl ly_95 (by omega) (rf_95_3 hR) ?_
        refine a_iconstN (a := 0) dM_readText_155 (by decide) ?_
        refine a_iload_n 0 dM_readText_156 rfl rfl ?_
        refine a_if_eq (tgt := 167) dM_readText_157 (by decide) (fun c => False.elim (absurd c (by decide))) (fun _ => ?_)
        refine a_aload_n 1 dM_readText_160 rfl rfl ?_
        refine a_geti dM_readText_161 fl12_136 rfl ly_95 (by omega) ?_
        rw [show (m_row (m_row (m_row (m_row (m_row I 95 F9) 98 (I 98)) 99 (I 99)) 104 D9) 105 A9) 95 16 = (nI st9.f) from h16]
        refine a_goto (tgt := 168) dM_readText_164 (by decide) ?_
        refine a_iastN (a := 0) dM_readText_168 ly_98 (by omega) (by omega) (by decide) ?_
        rw [show m_up (m_row (m_row (m_row (m_row (m_row I 95 F9) 98 (I 98)) 99 (I 99)) 104 D9) 105 A9) 98 0 (nI st9.f) = (m_row (m_row (m_row (m_row (m_row I 95 F9) 98 (va_up (I 98) 0 (nI st9.f))) 99 (I 99)) 104 D9) 105 A9) from (by rw [m_up_comm (by decide), m_up_comm (by decide), m_up_comm (by decide), m_up_r])]
        refine a_aload_n 1 dM_readText_169 rfl rfl ?_
        refine a_geta (r := 99) dM_readText_170 fl12_20 rfl ly_95 (by omega) (rf_95_4 hR) ?_
        refine a_iconstN (a := 0) dM_readText_173 (by decide) ?_
        refine a_iload_n 0 dM_readText_174 rfl rfl ?_
        refine a_if_ne (tgt := 185) dM_readText_175 (by decide) (fun _ => ?_) (fun c => False.elim (absurd c (by decide)))
        refine a_aload_n 1 dM_readText_185 rfl rfl ?_
        refine a_geti dM_readText_186 fl12_136 rfl ly_95 (by omega) ?_
        rw [show (m_row (m_row (m_row (m_row (m_row I 95 F9) 98 (va_up (I 98) 0 (nI st9.f))) 99 (I 99)) 104 D9) 105 A9) 95 16 = (nI st9.f) from h16]
        refine a_if_le (tgt := 199) dM_readText_189 (by decide) (fun c => False.elim (z (nI_le0 (by omega) c))) (fun _ => ?_)
        refine a_aload_n 1 dM_readText_192 rfl rfl ?_
        refine a_geti dM_readText_193 fl12_139 rfl ly_95 (by omega) ?_
        rw [show (m_row (m_row (m_row (m_row (m_row I 95 F9) 98 (va_up (I 98) 0 (nI st9.f))) 99 (I 99)) 104 D9) 105 A9) 95 17 = (nI st9.pl) from h17]
        refine a_goto (tgt := 200) dM_readText_196 (by decide) ?_
        refine a_iastN (a := 0) dM_readText_200 ly_99 (by omega) (by omega) (by decide) ?_
        rw [show m_up (m_row (m_row (m_row (m_row (m_row I 95 F9) 98 (va_up (I 98) 0 (nI st9.f))) 99 (I 99)) 104 D9) 105 A9) 99 0 (nI st9.pl) = (m_row (m_row (m_row (m_row (m_row I 95 F9) 98 (va_up (I 98) 0 (nI st9.f))) 99 (va_up (I 99) 0 (nI st9.pl))) 104 D9) 105 A9) from (by rw [m_up_comm (by decide), m_up_comm (by decide), m_up_r])]
        refine a_aload_n 1 dM_readText_201 rfl rfl ?_
        refine a_geta (r := 98) dM_readText_202 fl12_17 rfl ly_95 (by omega) (rf_95_3 hR) ?_
        refine a_iconstN (a := 0) dM_readText_205 (by decide) ?_
        refine a_ialdN (a := 0) dM_readText_206 ly_98 (by omega) (by omega) (by decide) ?_
        rw [show (m_row (m_row (m_row (m_row (m_row I 95 F9) 98 (va_up (I 98) 0 (nI st9.f))) 99 (va_up (I 99) 0 (nI st9.pl))) 104 D9) 105 A9) 98 0 = (nI st9.f) from rfl]
        refine a_if_ne (tgt := 214) dM_readText_207 (by decide) (fun _ => ?_) (fun c => False.elim (z ((nI_eq (by omega) (by decide)).mp c)))
        refine a_iconstN (a := 0) dM_readText_214 (by decide) ?_
        exact a_zret dM_readText_215 rfl (by rfl) ⟨rfl, by rw [oz, if_neg z], by rw [oz]; rfl, by rw [oz, if_neg z]; rfl, fun q => absurd (by rw [oz] at q; exact q) z, (fun a h1 h2 h3 h4 h5 => (m_row_ne h5).trans ((m_row_ne h4).trans ((m_row_ne h3).trans ((m_row_ne h2).trans (m_row_ne h1)))))⟩
  ·
    refine a_aload_n 1 dM_readText_56 rfl rfl ?_
    refine a_geta (r := 104) dM_readText_57 fl12_35 rfl ly_95 (by omega) (rf_95_18 hR) ?_
    refine a_iconstN (a := 0) dM_readText_60 (by decide) ?_
    refine a_iload_n 2 dM_readText_61 rfl rfl ?_
    refine a_if_ne (tgt := 69) dM_readText_62 (by decide) (fun _ => ?_) (fun c => False.elim (o9 ((nI_eq (by omega) (by decide)).mp c)))
    refine a_iconstN (a := 0) dM_readText_69 (by decide) ?_
    refine a_iastN (a := 0) dM_readText_70 ly_104 (by omega) (by omega) (by decide) ?_
    rw [show m_up (m_row (m_row (m_row I 95 F) 104 (m_fill (rtD of) D 121)) 105 A) 104 0 (nI 0) = (m_row (m_row (m_row I 95 F) 104 (va_up (m_fill (rtD of) D 121) 0 (nI 0))) 105 A) from (by rw [m_up_comm (by decide), m_up_r])]
    refine a_aload_n 1 dM_readText_71 rfl rfl ?_
    refine a_iconst (v := -1) dM_readText_72 (by decide) ?_
    refine a_puti dM_readText_73 fl12_164 rfl ly_95 (by omega) ?_
    rw [show m_up (m_row (m_row (m_row I 95 F) 104 (va_up (m_fill (rtD of) D 121) 0 (nI 0))) 105 A) 95 20 (-1) = (m_row (m_row (m_row I 95 (va_up F 20 (-1))) 104 (va_up (m_fill (rtD of) D 121) 0 (nI 0))) 105 A) from (by rw [m_up_comm (by decide), m_up_comm (by decide), m_up_r])]
    refine a_aload_n 1 dM_readText_76 rfl rfl ?_
    refine a_iconst (v := -1) dM_readText_77 (by decide) ?_
    refine a_puti dM_readText_78 fl12_171 rfl ly_95 (by omega) ?_
    rw [show m_up (m_row (m_row (m_row I 95 (va_up F 20 (-1))) 104 (va_up (m_fill (rtD of) D 121) 0 (nI 0))) 105 A) 95 21 (-1) = (m_row (m_row (m_row I 95 (va_up (va_up F 20 (-1)) 21 (-1))) 104 (va_up (m_fill (rtD of) D 121) 0 (nI 0))) 105 A) from (by rw [m_up_comm (by decide), m_up_comm (by decide), m_up_r])]
    refine a_aload_n 1 dM_readText_81 rfl rfl ?_
    refine a_iconstN (a := 0) dM_readText_82 (by decide) ?_
    refine a_puti dM_readText_83 fl12_110 rfl ly_95 (by omega) ?_
    rw [show m_up (m_row (m_row (m_row I 95 (va_up (va_up F 20 (-1)) 21 (-1))) 104 (va_up (m_fill (rtD of) D 121) 0 (nI 0))) 105 A) 95 9 (nI 0) = (m_row (m_row (m_row I 95 (va_up (va_up (va_up F 9 (nI 0)) 20 (-1)) 21 (-1))) 104 (va_up (m_fill (rtD of) D 121) 0 (nI 0))) 105 A) from (by rw [m_up_comm (by decide), m_up_comm (by decide), m_up_r, show va_up (va_up (va_up F 20 (-1)) 21 (-1)) 9 (nI 0) = (va_up (va_up (va_up F 9 (nI 0)) 20 (-1)) 21 (-1)) from ((va_uc (by decide)).trans (congrArg (fun g => va_up g 21 (-1)) ((va_uc (by decide)).trans (congrArg (fun g => va_up g 20 (-1)) rfl))))])]
    refine a_aload_n 1 dM_readText_86 rfl rfl ?_
    refine a_iconstN (a := 0) dM_readText_87 (by decide) ?_
    refine a_puti dM_readText_88 fl12_136 rfl ly_95 (by omega) ?_
    rw [show m_up (m_row (m_row (m_row I 95 (va_up (va_up (va_up F 9 (nI 0)) 20 (-1)) 21 (-1))) 104 (va_up (m_fill (rtD of) D 121) 0 (nI 0))) 105 A) 95 16 (nI 0) = (m_row (m_row (m_row I 95 (va_up (va_up (va_up (va_up F 9 (nI 0)) 16 (nI 0)) 20 (-1)) 21 (-1))) 104 (va_up (m_fill (rtD of) D 121) 0 (nI 0))) 105 A) from (by rw [m_up_comm (by decide), m_up_comm (by decide), m_up_r, show va_up (va_up (va_up (va_up F 9 (nI 0)) 20 (-1)) 21 (-1)) 16 (nI 0) = (va_up (va_up (va_up (va_up F 9 (nI 0)) 16 (nI 0)) 20 (-1)) 21 (-1)) from ((va_uc (by decide)).trans (congrArg (fun g => va_up g 21 (-1)) ((va_uc (by decide)).trans (congrArg (fun g => va_up g 20 (-1)) rfl))))])]
    refine a_aload_n 1 dM_readText_91 rfl rfl ?_
    refine a_callV (Q' := m_res none (mRd I (tkG (I 96) len 0 (va_up (va_up (va_up (va_up F 9 (nI 0)) 16 (nI 0)) 20 (-1)) 21 (-1))) (va_up (m_fill (rtD of) D 121) 0 (nI 0)) A) (m_up J 95 14 (tkW (I 96) len 0)) R) (as := []) (st := []) dM_readText_92 ml12_154 rfl (Nat.le_of_ble_eq_true rfl) ly_95 rfl rfl (by decide) (by omega) (Nat.le_of_ble_eq_true rfl) rfl (Nat.le_refl _) (Nat.le_refl _) (c_tokJ (S := S) (d := d + 6) (n := n) (F := (va_up (va_up (va_up (va_up F 9 (nI 0)) 16 (nI 0)) 20 (-1)) 21 (-1))) (D := (va_up (m_fill (rtD of) D 121) 0 (nI 0))) (A := A) hn hR hl6 hby (Nat.zero_le _) rfl h10) (m_go ?_)
    show AW _ _ _ _ _ _ _ _ [] _ _ _ _
    refine a_aload_n 1 dM_readText_95 rfl rfl ?_
    refine a_iload_n 2 dM_readText_96 rfl rfl ?_
    have eD : (va_up (m_fill (rtD of) D 121) 0 (nI 0)) = DiA D of := by unfold DiA; rw [if_neg o9]
    refine a_mem (show mRd I (tkG (I 96) len 0 (va_up (va_up (va_up (va_up F 9 (nI 0)) 16 (nI 0)) 20 (-1)) 21 (-1))) (va_up (m_fill (rtD of) D 121) 0 (nI 0)) A = (m_row (m_row (m_row I 95 (tkG (I 96) len 0 (va_up (va_up (va_up (va_up F 9 (nI 0)) 16 (nI 0)) 20 (-1)) 21 (-1)))) 104 (DiA D of)) 105 A) by rw [eD]) ?_
    have hS0 : RS (I 96) len 0 (0, 0) (-1) (-1) (F 22) (tkG (I 96) len 0 (va_up (va_up (va_up (va_up F 9 (nI 0)) 16 (nI 0)) 20 (-1)) 21 (-1))) := RS_tk hby (Nat.zero_le _) h10 (show 0 < 5 by decide) rfl (fun q => absurd rfl q) (fun q => absurd rfl q) rfl rfl rfl
    have hR0 : RR of (0, 0, -1, -1, DiA D of) (0, 0) (-1) (-1) (DiA D of) := ⟨rfl, fun q => absurd rfl q, fun _ => ⟨rfl, fun _ => ⟨rfl, rfl⟩⟩, Di_w (by omega)⟩
    refine a_callV (Q' := lnsQ I J R len of out) (as := [.int (nI of)]) (st := []) dM_readText_97 ml12_239 rfl (Nat.le_of_ble_eq_true rfl) ly_95 rfl rfl (by decide) (by omega) (Nat.le_of_ble_eq_true rfl) rfl (Nat.le_refl _) (Nat.le_refl _) (by have q := c_lines (S := S) (d := d) (n := n) (J := J) (F := (tkG (I 96) len 0 (va_up (va_up (va_up (va_up F 9 (nI 0)) 16 (nI 0)) 20 (-1)) 21 (-1)))) (D := DiA D of) (A := A) hn hR hl6 hby (of := of) (by omega) (Nat.zero_le _) hS0 hR0 (r := len + 1) (by omega); rw [ho] at q; exact q) ?_
    intro v9 I9 J9 R9 ⟨e3, ⟨w9, e5⟩, hq9⟩
    rcases hq9 with ⟨e1, hf1, F9, D9, A9, h15, e4⟩ | ⟨e1, F9, D9, A9, p9, x9, gh9, gl9, g9, st9, hS9, hz9, hp9, hR9, ho9, e4⟩
    · rw [e1, e5, e3, e4]
      show AW _ _ _ _ _ _ _ _ [.int 0] (m_row (m_row (m_row I 95 F9) 104 D9) 105 A9) _ _ _
      refine a_istore_n (lv' := [(2, .int 0), (0, .ref 95), (1, .int (nI of))]) dM_readText_100 rfl (by decide) rfl ?_
      refine a_iload_n 0 dM_readText_101 rfl rfl ?_
      refine a_if_eq (tgt := 151) dM_readText_102 (by decide) (fun _ => ?_) (fun c => False.elim (c rfl))
      refine a_mem (show (m_row (m_row (m_row I 95 F9) 104 D9) 105 A9) = (m_row (m_row (m_row (m_row (m_row I 95 F9) 98 (I 98)) 99 (I 99)) 104 D9) 105 A9) from mR5.symm) ?_
      refine a_aload_n 1 dM_readText_151 rfl rfl ?_
      refine a_geta (r := 98) dM_readText_152 fl12_17 rfl ly_95 (by omega) (rf_95_3 hR) ?_
      refine a_iconstN (a := 0) dM_readText_155 (by decide) ?_
      refine a_iload_n 0 dM_readText_156 rfl rfl ?_
      refine a_if_eq (tgt := 167) dM_readText_157 (by decide) (fun _ => ?_) (fun c => False.elim (c rfl))
      refine a_iconstN (a := 1) dM_readText_167 (by decide) ?_
      refine a_iastN (a := 0) dM_readText_168 ly_98 (by omega) (by omega) (by decide) ?_
      rw [show m_up (m_row (m_row (m_row (m_row (m_row I 95 F9) 98 (I 98)) 99 (I 99)) 104 D9) 105 A9) 98 0 (nI 1) = (m_row (m_row (m_row (m_row (m_row I 95 F9) 98 (va_up (I 98) 0 (nI 1))) 99 (I 99)) 104 D9) 105 A9) from (by rw [m_up_comm (by decide), m_up_comm (by decide), m_up_comm (by decide), m_up_r])]
      refine a_aload_n 1 dM_readText_169 rfl rfl ?_
      refine a_geta (r := 99) dM_readText_170 fl12_20 rfl ly_95 (by omega) (rf_95_4 hR) ?_
      refine a_iconstN (a := 0) dM_readText_173 (by decide) ?_
      refine a_iload_n 0 dM_readText_174 rfl rfl ?_
      refine a_if_ne (tgt := 185) dM_readText_175 (by decide) (fun c => False.elim (c rfl)) (fun _ => ?_)
      refine a_aload_n 1 dM_readText_178 rfl rfl ?_
      refine a_geti dM_readText_179 fl12_133 rfl ly_95 (by omega) ?_
      rw [show (m_row (m_row (m_row (m_row (m_row I 95 F9) 98 (va_up (I 98) 0 (nI 1))) 99 (I 99)) 104 D9) 105 A9) 95 15 = (nI out.pl) from h15]
      refine a_goto (tgt := 200) dM_readText_182 (by decide) ?_
      refine a_iastN (a := 0) dM_readText_200 ly_99 (by omega) (by omega) (by decide) ?_
      rw [show m_up (m_row (m_row (m_row (m_row (m_row I 95 F9) 98 (va_up (I 98) 0 (nI 1))) 99 (I 99)) 104 D9) 105 A9) 99 0 (nI out.pl) = (m_row (m_row (m_row (m_row (m_row I 95 F9) 98 (va_up (I 98) 0 (nI 1))) 99 (va_up (I 99) 0 (nI out.pl))) 104 D9) 105 A9) from (by rw [m_up_comm (by decide), m_up_comm (by decide), m_up_r])]
      refine a_aload_n 1 dM_readText_201 rfl rfl ?_
      refine a_geta (r := 98) dM_readText_202 fl12_17 rfl ly_95 (by omega) (rf_95_3 hR) ?_
      refine a_iconstN (a := 0) dM_readText_205 (by decide) ?_
      refine a_ialdN (a := 0) dM_readText_206 ly_98 (by omega) (by omega) (by decide) ?_
      rw [show (m_row (m_row (m_row (m_row (m_row I 95 F9) 98 (va_up (I 98) 0 (nI 1))) 99 (va_up (I 99) 0 (nI out.pl))) 104 D9) 105 A9) 98 0 = (nI 1) from rfl]
      refine a_if_ne (tgt := 214) dM_readText_207 (by decide) (fun _ => ?_) (fun c => False.elim (absurd c (by decide)))
      refine a_iconstN (a := 0) dM_readText_214 (by decide) ?_
      exact a_zret dM_readText_215 rfl (by rfl) ⟨rfl, by rw [hf1]; rfl, by rw [hf1]; rfl, by rw [hf1, if_neg (by decide)]; rfl, fun q => absurd (hf1.symm.trans q) (by decide), (fun a h1 h2 h3 h4 h5 => (m_row_ne h5).trans ((m_row_ne h4).trans ((m_row_ne h3).trans ((m_row_ne h2).trans (m_row_ne h1)))))⟩
    · rw [e1, e5, e3, e4]
      show AW _ _ _ _ _ _ _ _ [.int 1] (m_row (m_row (m_row I 95 F9) 104 D9) 105 A9) _ _ _
      have h16 : F9 16 = nI st9.f := by rw [hS9.h16, hR9.1]
      have f5 : st9.f < 5 := by have := hS9.f5; rw [hR9.1] at this; exact this
      by_cases z : st9.f = 0
      · have oz : out = st9 := by rw [ho9]; unfold finA; rw [if_neg (fun q => o9 q.2.1)]
        refine a_istore_n (lv' := [(2, .int 1), (0, .ref 95), (1, .int (nI of))]) dM_readText_100 rfl (by decide) rfl ?_
        refine a_iload_n 0 dM_readText_101 rfl rfl ?_
        refine a_if_eq (tgt := 151) dM_readText_102 (by decide) (fun c => False.elim (absurd c (by decide))) (fun _ => ?_)
        refine a_iload_n 2 dM_readText_105 rfl rfl ?_
        refine a_if_ne (tgt := 151) dM_readText_106 (by decide) (fun _ => ?_) (fun c => False.elim (o9 ((nI_eq (by omega) (by decide)).mp c)))
        refine a_mem (show (m_row (m_row (m_row I 95 F9) 104 D9) 105 A9) = (m_row (m_row (m_row (m_row (m_row I 95 F9) 98 (I 98)) 99 (I 99)) 104 D9) 105 A9) from mR5.symm) ?_
        refine a_aload_n 1 dM_readText_151 rfl rfl ?_
        refine a_geta (r := 98) dM_readText_152 fl12_17 rfl ly_95 (by omega) (rf_95_3 hR) ?_
        refine a_iconstN (a := 0) dM_readText_155 (by decide) ?_
        refine a_iload_n 0 dM_readText_156 rfl rfl ?_
        refine a_if_eq (tgt := 167) dM_readText_157 (by decide) (fun c => False.elim (absurd c (by decide))) (fun _ => ?_)
        refine a_aload_n 1 dM_readText_160 rfl rfl ?_
        refine a_geti dM_readText_161 fl12_136 rfl ly_95 (by omega) ?_
        rw [show (m_row (m_row (m_row (m_row (m_row I 95 F9) 98 (I 98)) 99 (I 99)) 104 D9) 105 A9) 95 16 = (nI 0) from (h16.trans (by rw [z]))]
        refine a_goto (tgt := 168) dM_readText_164 (by decide) ?_
        refine a_iastN (a := 0) dM_readText_168 ly_98 (by omega) (by omega) (by decide) ?_
        rw [show m_up (m_row (m_row (m_row (m_row (m_row I 95 F9) 98 (I 98)) 99 (I 99)) 104 D9) 105 A9) 98 0 (nI 0) = (m_row (m_row (m_row (m_row (m_row I 95 F9) 98 (va_up (I 98) 0 (nI 0))) 99 (I 99)) 104 D9) 105 A9) from (by rw [m_up_comm (by decide), m_up_comm (by decide), m_up_comm (by decide), m_up_r])]
        refine a_aload_n 1 dM_readText_169 rfl rfl ?_
        refine a_geta (r := 99) dM_readText_170 fl12_20 rfl ly_95 (by omega) (rf_95_4 hR) ?_
        refine a_iconstN (a := 0) dM_readText_173 (by decide) ?_
        refine a_iload_n 0 dM_readText_174 rfl rfl ?_
        refine a_if_ne (tgt := 185) dM_readText_175 (by decide) (fun _ => ?_) (fun c => False.elim (absurd c (by decide)))
        refine a_aload_n 1 dM_readText_185 rfl rfl ?_
        refine a_geti dM_readText_186 fl12_136 rfl ly_95 (by omega) ?_
        rw [show (m_row (m_row (m_row (m_row (m_row I 95 F9) 98 (va_up (I 98) 0 (nI 0))) 99 (I 99)) 104 D9) 105 A9) 95 16 = (nI 0) from (h16.trans (by rw [z]))]
        refine a_if_le (tgt := 199) dM_readText_189 (by decide) (fun _ => ?_) (fun c => False.elim (c (by decide)))
        refine a_iconst (v := -1) dM_readText_199 (by decide) ?_
        refine a_iastN (a := 0) dM_readText_200 ly_99 (by omega) (by omega) (by decide) ?_
        rw [show m_up (m_row (m_row (m_row (m_row (m_row I 95 F9) 98 (va_up (I 98) 0 (nI 0))) 99 (I 99)) 104 D9) 105 A9) 99 0 (-1) = (m_row (m_row (m_row (m_row (m_row I 95 F9) 98 (va_up (I 98) 0 (nI 0))) 99 (va_up (I 99) 0 (-1))) 104 D9) 105 A9) from (by rw [m_up_comm (by decide), m_up_comm (by decide), m_up_r])]
        refine a_aload_n 1 dM_readText_201 rfl rfl ?_
        refine a_geta (r := 98) dM_readText_202 fl12_17 rfl ly_95 (by omega) (rf_95_3 hR) ?_
        refine a_iconstN (a := 0) dM_readText_205 (by decide) ?_
        refine a_ialdN (a := 0) dM_readText_206 ly_98 (by omega) (by omega) (by decide) ?_
        rw [show (m_row (m_row (m_row (m_row (m_row I 95 F9) 98 (va_up (I 98) 0 (nI 0))) 99 (va_up (I 99) 0 (-1))) 104 D9) 105 A9) 98 0 = (nI 0) from rfl]
        refine a_if_ne (tgt := 214) dM_readText_207 (by decide) (fun c => False.elim (c rfl)) (fun _ => ?_)
        refine a_iconstN (a := 1) dM_readText_210 (by decide) ?_
        refine a_goto (tgt := 215) dM_readText_211 (by decide) ?_
        exact a_zret dM_readText_215 rfl (by rfl) ⟨rfl, by rw [oz, z]; rfl, by rw [oz, z]; rfl, by rw [oz, if_pos z]; rfl, fun _ => by rw [oz]; exact (hR9.2.2.1 z).1, (fun a h1 h2 h3 h4 h5 => (m_row_ne h5).trans ((m_row_ne h4).trans ((m_row_ne h3).trans ((m_row_ne h2).trans (m_row_ne h1)))))⟩
      · have oz : out = st9 := by rw [ho9]; unfold finA; rw [if_neg (fun q => z q.1)]
        have h17 : F9 17 = nI st9.pl := by rw [hS9.h17 (fun q => z (hR9.1.symm.trans q)), hR9.2.1 z]
        refine a_istore_n (lv' := [(2, .int 1), (0, .ref 95), (1, .int (nI of))]) dM_readText_100 rfl (by decide) rfl ?_
        refine a_iload_n 0 dM_readText_101 rfl rfl ?_
        refine a_if_eq (tgt := 151) dM_readText_102 (by decide) (fun c => False.elim (absurd c (by decide))) (fun _ => ?_)
        refine a_iload_n 2 dM_readText_105 rfl rfl ?_
        refine a_if_ne (tgt := 151) dM_readText_106 (by decide) (fun _ => ?_) (fun c => False.elim (o9 ((nI_eq (by omega) (by decide)).mp c)))
        refine a_mem (show (m_row (m_row (m_row I 95 F9) 104 D9) 105 A9) = (m_row (m_row (m_row (m_row (m_row I 95 F9) 98 (I 98)) 99 (I 99)) 104 D9) 105 A9) from mR5.symm) ?_
        refine a_aload_n 1 dM_readText_151 rfl rfl ?_
        refine a_geta (r := 98) dM_readText_152 fl12_17 rfl ly_95 (by omega) (rf_95_3 hR) ?_
        refine a_iconstN (a := 0) dM_readText_155 (by decide) ?_
        refine a_iload_n 0 dM_readText_156 rfl rfl ?_
        refine a_if_eq (tgt := 167) dM_readText_157 (by decide) (fun c => False.elim (absurd c (by decide))) (fun _ => ?_)
        refine a_aload_n 1 dM_readText_160 rfl rfl ?_
        refine a_geti dM_readText_161 fl12_136 rfl ly_95 (by omega) ?_
        rw [show (m_row (m_row (m_row (m_row (m_row I 95 F9) 98 (I 98)) 99 (I 99)) 104 D9) 105 A9) 95 16 = (nI st9.f) from h16]
        refine a_goto (tgt := 168) dM_readText_164 (by decide) ?_
        refine a_iastN (a := 0) dM_readText_168 ly_98 (by omega) (by omega) (by decide) ?_
        rw [show m_up (m_row (m_row (m_row (m_row (m_row I 95 F9) 98 (I 98)) 99 (I 99)) 104 D9) 105 A9) 98 0 (nI st9.f) = (m_row (m_row (m_row (m_row (m_row I 95 F9) 98 (va_up (I 98) 0 (nI st9.f))) 99 (I 99)) 104 D9) 105 A9) from (by rw [m_up_comm (by decide), m_up_comm (by decide), m_up_comm (by decide), m_up_r])]
        refine a_aload_n 1 dM_readText_169 rfl rfl ?_
        refine a_geta (r := 99) dM_readText_170 fl12_20 rfl ly_95 (by omega) (rf_95_4 hR) ?_
        refine a_iconstN (a := 0) dM_readText_173 (by decide) ?_
        refine a_iload_n 0 dM_readText_174 rfl rfl ?_
        refine a_if_ne (tgt := 185) dM_readText_175 (by decide) (fun _ => ?_) (fun c => False.elim (absurd c (by decide)))
        refine a_aload_n 1 dM_readText_185 rfl rfl ?_
        refine a_geti dM_readText_186 fl12_136 rfl ly_95 (by omega) ?_
        rw [show (m_row (m_row (m_row (m_row (m_row I 95 F9) 98 (va_up (I 98) 0 (nI st9.f))) 99 (I 99)) 104 D9) 105 A9) 95 16 = (nI st9.f) from h16]
        refine a_if_le (tgt := 199) dM_readText_189 (by decide) (fun c => False.elim (z (nI_le0 (by omega) c))) (fun _ => ?_)
        refine a_aload_n 1 dM_readText_192 rfl rfl ?_
        refine a_geti dM_readText_193 fl12_139 rfl ly_95 (by omega) ?_
        rw [show (m_row (m_row (m_row (m_row (m_row I 95 F9) 98 (va_up (I 98) 0 (nI st9.f))) 99 (I 99)) 104 D9) 105 A9) 95 17 = (nI st9.pl) from h17]
        refine a_goto (tgt := 200) dM_readText_196 (by decide) ?_
        refine a_iastN (a := 0) dM_readText_200 ly_99 (by omega) (by omega) (by decide) ?_
        rw [show m_up (m_row (m_row (m_row (m_row (m_row I 95 F9) 98 (va_up (I 98) 0 (nI st9.f))) 99 (I 99)) 104 D9) 105 A9) 99 0 (nI st9.pl) = (m_row (m_row (m_row (m_row (m_row I 95 F9) 98 (va_up (I 98) 0 (nI st9.f))) 99 (va_up (I 99) 0 (nI st9.pl))) 104 D9) 105 A9) from (by rw [m_up_comm (by decide), m_up_comm (by decide), m_up_r])]
        refine a_aload_n 1 dM_readText_201 rfl rfl ?_
        refine a_geta (r := 98) dM_readText_202 fl12_17 rfl ly_95 (by omega) (rf_95_3 hR) ?_
        refine a_iconstN (a := 0) dM_readText_205 (by decide) ?_
        refine a_ialdN (a := 0) dM_readText_206 ly_98 (by omega) (by omega) (by decide) ?_
        rw [show (m_row (m_row (m_row (m_row (m_row I 95 F9) 98 (va_up (I 98) 0 (nI st9.f))) 99 (va_up (I 99) 0 (nI st9.pl))) 104 D9) 105 A9) 98 0 = (nI st9.f) from rfl]
        refine a_if_ne (tgt := 214) dM_readText_207 (by decide) (fun _ => ?_) (fun c => False.elim (z ((nI_eq (by omega) (by decide)).mp c)))
        refine a_iconstN (a := 0) dM_readText_214 (by decide) ?_
        exact a_zret dM_readText_215 rfl (by rfl) ⟨rfl, by rw [oz, if_neg z], by rw [oz]; rfl, by rw [oz, if_neg z]; rfl, fun q => absurd (by rw [oz] at q; exact q) z, (fun a h1 h2 h3 h4 h5 => (m_row_ne h5).trans ((m_row_ne h4).trans ((m_row_ne h3).trans ((m_row_ne h2).trans (m_row_ne h1)))))⟩
