abbrev g8 (I : mI) (F C M X md ls cm : Nat → Int32) : mI := m_row (m_row (m_row (m_row (m_row (m_row (m_row I 85 F) 86 C) 87 M) 88 X) 89 md) 90 ls) 91 cm
abbrev b8 (I : mI) (F C M : Nat → Int32) : mI := m_row (m_row (m_row I 85 F) 86 C) 87 M
theorem g8_self {I : mI} : g8 I (I 85) (I 86) (I 87) (I 88) (I 89) (I 90) (I 91) = I := by
  unfold g8
  rw [m_row_self, m_row_self, m_row_self, m_row_self, m_row_self, m_row_self, m_row_self]
theorem b8_o {I : mI} {F C M : Nat → Int32} {o k : Nat} (ho : o ∈ m_offs) (hk : k < 9) : b8 I F C M (o + k) = I (o + k) := by
  unfold b8; rw [off_row ho (by decide) hk, off_row ho (by decide) hk, off_row ho (by decide) hk]
theorem b8_g {I : mI} {F C M : Nat → Int32} {g k : Nat} (hg : g ∈ m_lgs) (hk : k < 3) : b8 I F C M (g + k) = I (g + k) := by
  unfold b8; rw [m_row_ne (gc_ne hg hk (by decide)), m_row_ne (gc_ne hg hk (by decide)), m_row_ne (gc_ne hg hk (by decide))]
theorem b8_ds {I : mI} {F C M : Nat → Int32} {o : Nat} (ho : o ∈ m_offs) : dsO (b8 I F C M) o = dsO I o := by
  funext l y; unfold dsO; rw [b8_o ho (by decide), b8_o ho (by decide), b8_o ho (by decide)]
theorem cp87 {I : mI} {F C M X md ls cm : Nat → Int32} {fo : Nat} (h : fo < 61) : m_row (g8 I F C M X md ls cm) 87 (va_cpy (g8 I F C M X md ls cm 89) (g8 I F C M X md ls cm 87) (Int32.toNatClampNeg (nI 0)) (Int32.toNatClampNeg (nI (6 * fo))) (Int32.toNatClampNeg (nI 6))) = g8 I F C (va_cpy md M 0 (6 * fo) 6) X md ls cm := by
  rw [nI_clamp (show 0 < 2 ^ 31 by decide), nI_clamp (show 6 * fo < 2 ^ 31 by omega), nI_clamp (show 6 < 2 ^ 31 by decide), show g8 I F C M X md ls cm 89 = md from rfl, show g8 I F C M X md ls cm 87 = M from rfl]
  unfold g8
  rw [m_row_c (a := 91) (b := 87) (by decide), m_row_c (a := 90) (b := 87) (by decide), m_row_c (a := 89) (b := 87) (by decide), m_row_c (a := 88) (b := 87) (by decide), m_row_row]
theorem cpy0 {f g : Nat → Int32} {j : Nat} (hj : j < 6) : va_cpy f g 0 0 6 j = f j := by
  rw [pk_cpy_in (by omega) (by omega)]; congr 1; omega
theorem fill0 {f : Nat → Int32} {x : Int32} {j : Nat} (hj : j < 6) : m_fill (fun _ => x) f 6 j = x := by
  unfold m_fill; rw [if_pos hj]
abbrev agP (I : mI) (o g c nh nl sp : Nat) : Prop := ∀ k, k < c → (¬ f_of (nI (hmN (I (g + 1)) k)) (nI nh) = 0 ∧ moS I o nl sp (hmN (I (g + 1)) k) = I (g + 2) k)
theorem lgR_88 {R : mR} {g v : Nat} (hg : g ∈ m_lgs) (h : lgR R g) : lgR (m_up R 88 0 (some v)) g := fun k hk => by
  rw [m_up_ne (gc_ne0 hg (by decide))]; exact h k hk
theorem b_tryOut {S : Nat × (Nat → Int32)} {d n : Nat} {I : mI} {J : mJ} {R : mR} {F C M X md ls cm : Nat → Int32} (hn : 122 ≤ n) (hR : m_fin R) {o nh nl : Nat} (ho : o ∈ m_offs) (hr : offR R o) (hon : o + 8 < n) (hh : I o 0 = nI nh) (hnh : nh ≤ 6) (hl : I o 1 = nI nl) (hnl : nl ≤ 10) (hW : WFc I o nl) (hH : WFh (I (o + 2)) nl) {g c : Nat} (hg : g ∈ m_lgs) (hgr : lgR R g) (hgn : g + 2 < n) (hcc : I g 0 = nI c) (hc8 : c ≤ 8) (hF : ∀ k, k < c → I (g + 1) k = nI (hmN (I (g + 1)) k) ∧ hmN (I (g + 1)) k < 6) {sp : Nat} (hs : sp < 60 ∨ sp = 99) {fo : Nat} (hf61 : fo < 61) {Q : Option Value → mI → mJ → mR → Prop} (hQ1 : ∀ X' md' ls' cm', agP I o g c nh nl sp → (∀ h, h < 6 → md' h = moS I o nl sp h) → Q none (g8 I (va_up F 0 (nI (fo + 1))) (va_up C fo (nI sp)) (va_cpy md' M 0 (6 * fo) 6) X' md' ls' cm') J (m_up R 88 0 (some o))) (hQ0 : ¬ agP I o g c nh nl sp → ∀ X' md' ls' cm', Q none (g8 I (va_up F 0 (nI fo)) C M X' md' ls' cm') J (m_up R 88 0 (some o))) : AW S (d + 2) YSlips_tryOut n n Q 0 [(0, .ref 85), (1, .ref o), (2, .ref g), (3, .int (nI sp))] [] (m_row (m_row (m_row (m_row (m_row (m_row (m_row I 85 (va_up F 0 (nI fo))) 86 C) 87 M) 88 X) 89 md) 90 ls) 91 cm) J R n := by
  have hR' := fin_88 (o := o) hR
  have hr' := offR_88 (v := o) ho hr
  have hg' := lgR_88 (v := o) hg hgr
  have hRo' : m_up R 88 0 (some o) 88 0 = some o := m_up_at
  refine a_aload_n 0 dSlips_tryOut_0 rfl rfl ?_
  refine a_geta (r := 88) dSlips_tryOut_1 fl8_21 rfl ly_85 (by omega) (rf_85_3 hR) ?_
  refine a_aload_n 1 dSlips_tryOut_4 rfl rfl ?_
  refine a_callV (Q' := m_res none (m_row (m_row (m_row (m_row (m_row (m_row (m_row I 85 (va_up F 0 (nI fo))) 86 C) 87 M) 88 (bgX (b8 I (va_up F 0 (nI fo)) C M) o nh nl md X)) 89 (va_cpy (I (o + 1)) md 0 0 6)) 90 (m_fill (fun _ => -1) ls 6)) 91 (m_fill (fun _ => 0) cm 6)) J (m_up R 88 0 (some o))) (as := [.ref o]) (st := []) dSlips_tryOut_5 ml8_45 rfl (Nat.le_of_ble_eq_true rfl) ly_88 rfl rfl (by decide) (by omega) (Nat.le_of_ble_eq_true rfl) rfl (Nat.le_refl _) (Nat.le_refl _) (by have h := c_bg8 (S := S) (d := d) (n := n) (J := J) (R := R) (I := (b8 I (va_up F 0 (nI fo)) C M)) (X := X) (md := md) (ls := ls) (cm := cm) hn hR ho hr hon (nh := nh) (nl := nl) ((congrFun (b8_o (k := 0) ho (by decide)) _).trans hh) hnh ((congrFun (b8_o (k := 0) ho (by decide)) _).trans hl) hnl; rw [b8_o ho (by decide)] at h; exact h) (m_go ?_)
  show AW _ _ _ _ _ _ _ _ [] _ _ _ _
  refine a_iconstN (a := 0) dSlips_tryOut_8 (by decide) ?_
  refine a_istore (lv' := [(4, .int (nI 0)), (0, .ref 85), (1, .ref o), (2, .ref g), (3, .int (nI sp))]) dSlips_tryOut_9 (by decide) rfl ?_
  refine a_locs (lv' := [(4, .int (nI 0)), (0, .ref 85), (1, .ref o), (2, .ref g), (3, .int (nI sp))]) [0, 1, 2, 3, 4] rfl ?_
  refine l_trN (s0 := (bgX (b8 I (va_up F 0 (nI fo)) C M) o nh nl md X, va_cpy (I (o + 1)) md 0 0 6, m_fill (fun _ => -1) ls 6, m_fill (fun _ => 0) cm 6)) (I := (b8 I (va_up F 0 (nI fo)) C M)) (R := (m_up R 88 0 (some o))) hn hR' ho hr' hon (nh := nh) (nl := nl) ((congrFun (b8_o (k := 0) ho (by decide)) _).trans hh) hnh ((congrFun (b8_o (k := 0) ho (by decide)) _).trans hl) hnl hRo' (fun l hl2 => by rw [b8_o ho (by decide)]; exact hW l hl2) (by rw [b8_o ho (by decide)]; exact hH) hs (fun k hk2 => ?_) ?_ nl 0 (by omega) _ rfl
  · rw [show (trN (b8 I (va_up F 0 (nI fo)) C M) o sp (bgX (b8 I (va_up F 0 (nI fo)) C M) o nh nl md X, va_cpy (I (o + 1)) md 0 0 6, m_fill (fun _ => -1) ls 6, m_fill (fun _ => 0) cm 6) k).2.2.1 = (acN (dsO (b8 I (va_up F 0 (nI fo)) C M) o) ((b8 I (va_up F 0 (nI fo)) C M) (o + 3)) (hvS sp ((b8 I (va_up F 0 (nI fo)) C M) (o + 2))) (va_cpy (I (o + 1)) md 0 0 6, m_fill (fun _ => -1) ls 6, m_fill (fun _ => 0) cm 6) k).2.1 from congrArg (fun q => q.2.1) (trN_ac k)]
    exact acN_ok fill_ok k (fun l hl2 => by rw [b8_o ho (by decide)]; exact hW.kok (by omega))
  have em : ∀ h, h < 6 → (trN (b8 I (va_up F 0 (nI fo)) C M) o sp (bgX (b8 I (va_up F 0 (nI fo)) C M) o nh nl md X, va_cpy (I (o + 1)) md 0 0 6, m_fill (fun _ => -1) ls 6, m_fill (fun _ => 0) cm 6) nl).2.1 h = moS I o nl sp h := fun h hh2 => by
    rw [show (trN (b8 I (va_up F 0 (nI fo)) C M) o sp (bgX (b8 I (va_up F 0 (nI fo)) C M) o nh nl md X, va_cpy (I (o + 1)) md 0 0 6, m_fill (fun _ => -1) ls 6, m_fill (fun _ => 0) cm 6) nl).2.1 = (acN (dsO (b8 I (va_up F 0 (nI fo)) C M) o) ((b8 I (va_up F 0 (nI fo)) C M) (o + 3)) (hvS sp ((b8 I (va_up F 0 (nI fo)) C M) (o + 2))) (va_cpy (I (o + 1)) md 0 0 6, m_fill (fun _ => -1) ls 6, m_fill (fun _ => 0) cm 6) nl).1 from congrArg (fun q => q.1) (trN_ac nl), b8_ds ho, b8_o ho (by decide), b8_o ho (by decide)]
    unfold moS
    exact (acN_c6 (fun j hj => ⟨cpy0 hj, fill0 hj⟩) nl (fun l hl2 => hvS_lt hH hs hl2) h hh2).1
  show AW _ _ _ _ _ _ _ _ _ (m_row (m_row (m_row (m_row (m_row (m_row (m_row I 85 (va_up F 0 (nI fo))) 86 C) 87 M) 88 ((trN (b8 I (va_up F 0 (nI fo)) C M) o sp (bgX (b8 I (va_up F 0 (nI fo)) C M) o nh nl md X, va_cpy (I (o + 1)) md 0 0 6, m_fill (fun _ => -1) ls 6, m_fill (fun _ => 0) cm 6) nl).1)) 89 ((trN (b8 I (va_up F 0 (nI fo)) C M) o sp (bgX (b8 I (va_up F 0 (nI fo)) C M) o nh nl md X, va_cpy (I (o + 1)) md 0 0 6, m_fill (fun _ => -1) ls 6, m_fill (fun _ => 0) cm 6) nl).2.1)) 90 ((trN (b8 I (va_up F 0 (nI fo)) C M) o sp (bgX (b8 I (va_up F 0 (nI fo)) C M) o nh nl md X, va_cpy (I (o + 1)) md 0 0 6, m_fill (fun _ => -1) ls 6, m_fill (fun _ => 0) cm 6) nl).2.2.1)) 91 ((trN (b8 I (va_up F 0 (nI fo)) C M) o sp (bgX (b8 I (va_up F 0 (nI fo)) C M) o nh nl md X, va_cpy (I (o + 1)) md 0 0 6, m_fill (fun _ => -1) ls 6, m_fill (fun _ => 0) cm 6) nl).2.2.2)) _ _ _
  generalize (trN (b8 I (va_up F 0 (nI fo)) C M) o sp (bgX (b8 I (va_up F 0 (nI fo)) C M) o nh nl md X, va_cpy (I (o + 1)) md 0 0 6, m_fill (fun _ => -1) ls 6, m_fill (fun _ => 0) cm 6) nl).1 = X1
  generalize (trN (b8 I (va_up F 0 (nI fo)) C M) o sp (bgX (b8 I (va_up F 0 (nI fo)) C M) o nh nl md X, va_cpy (I (o + 1)) md 0 0 6, m_fill (fun _ => -1) ls 6, m_fill (fun _ => 0) cm 6) nl).2.1 = md1 at em ⊢
  generalize (trN (b8 I (va_up F 0 (nI fo)) C M) o sp (bgX (b8 I (va_up F 0 (nI fo)) C M) o nh nl md X, va_cpy (I (o + 1)) md 0 0 6, m_fill (fun _ => -1) ls 6, m_fill (fun _ => 0) cm 6) nl).2.2.1 = ls1
  generalize (trN (b8 I (va_up F 0 (nI fo)) C M) o sp (bgX (b8 I (va_up F 0 (nI fo)) C M) o nh nl md X, va_cpy (I (o + 1)) md 0 0 6, m_fill (fun _ => -1) ls 6, m_fill (fun _ => 0) cm 6) nl).2.2.2 = cm1
  have eag : agV (b8 I (va_up F 0 (nI fo)) C M) g c nh md1 = if agP I o g c nh nl sp then 1 else 0 := by
    unfold agV
    rw [b8_g hg (by decide), b8_g hg (by decide)]
    by_cases hp : agP I o g c nh nl sp
    · rw [if_pos hp, if_pos (fun k hk2 => ⟨(hp k hk2).1, by rw [em _ (hF k hk2).2]; exact (hp k hk2).2⟩)]
    · rw [if_neg hp, if_neg (fun q => hp (fun k hk2 => ⟨(q k hk2).1, by rw [← em _ (hF k hk2).2]; exact (q k hk2).2⟩))]
  refine a_aload_n 1 dSlips_tryOut_76 rfl rfl ?_
  refine a_geti dSlips_tryOut_77 fl8_25 rfl ly_85 (by omega) ?_
  rw [show (m_row (m_row (m_row (m_row (m_row (m_row (m_row I 85 (va_up F 0 (nI fo))) 86 C) 87 M) 88 X1) 89 md1) 90 ls1) 91 cm1) 85 0 = (nI fo) from rfl]
  refine a_bipushN (a := 61) dSlips_tryOut_80 (by decide) ?_
  refine a_icmp_geN (tgt := 138) dSlips_tryOut_82 (by decide) (by omega) (by omega) (fun c => False.elim (by omega)) (fun _ => ?_)
  refine a_aload_n 1 dSlips_tryOut_85 rfl rfl ?_
  refine a_aload_n 2 dSlips_tryOut_86 rfl rfl ?_
  refine a_aload_n 3 dSlips_tryOut_87 rfl rfl ?_
  refine a_callV (Q' := m_res (some (.int (if agP I o g c nh nl sp then 1 else 0))) (m_row (m_row (m_row (m_row (m_row (m_row (m_row I 85 (va_up F 0 (nI fo))) 86 C) 87 M) 88 X1) 89 md1) 90 ls1) 91 cm1) J (m_up R 88 0 (some o))) (as := [.ref o, .ref g]) (st := []) dSlips_tryOut_88 ml8_53 rfl (Nat.le_of_ble_eq_true rfl) ly_85 rfl rfl (by decide) (by omega) (Nat.le_of_ble_eq_true rfl) rfl (Nat.le_refl _) (Nat.le_refl _) (by have h := c_agrees (S := S) (d := d) (n := n) (J := J) (R := (m_up R 88 0 (some o))) (I := (b8 I (va_up F 0 (nI fo)) C M)) (X := X1) (md := md1) (ls := ls1) (cm := cm1) hn hR' ho hr' hon (nh := nh) (nl := nl) ((congrFun (b8_o (k := 0) ho (by decide)) _).trans hh) hnh ((congrFun (b8_o (k := 0) ho (by decide)) _).trans hl) hnl hg hg' hgn (c := c) ((congrFun (b8_g (k := 0) hg (by decide)) _).trans hcc) hc8 (fun k hk2 => by rw [b8_g hg (by decide)]; exact hF k hk2); rw [eag] at h; exact h) (m_go ?_)
  show AW _ _ _ _ _ _ _ _ [.int (if agP I o g c nh nl sp then 1 else 0)] _ _ _ _
  by_cases hag : agP I o g c nh nl sp
  · refine a_if_eq (tgt := 138) dSlips_tryOut_91 (by decide) (fun c9 => False.elim (absurd c9 (by rw [if_pos hag]; decide))) (fun _ => ?_)
    refine a_aload_n 1 dSlips_tryOut_94 rfl rfl ?_
    refine a_geta (r := 86) dSlips_tryOut_95 fl8_11 rfl ly_85 (by omega) (rf_85_1 hR') ?_
    refine a_aload_n 1 dSlips_tryOut_98 rfl rfl ?_
    refine a_geti dSlips_tryOut_99 fl8_25 rfl ly_85 (by omega) ?_
    rw [show (m_row (m_row (m_row (m_row (m_row (m_row (m_row I 85 (va_up F 0 (nI fo))) 86 C) 87 M) 88 X1) 89 md1) 90 ls1) 91 cm1) 85 0 = (nI fo) from rfl]
    refine a_iload_n 4 dSlips_tryOut_102 rfl rfl ?_
    refine a_iastN (a := fo) dSlips_tryOut_103 ly_86 (by omega) (by omega) (by decide) ?_
    rw [show m_up (m_row (m_row (m_row (m_row (m_row (m_row (m_row I 85 (va_up F 0 (nI fo))) 86 C) 87 M) 88 X1) 89 md1) 90 ls1) 91 cm1) 86 fo (nI sp) = (m_row (m_row (m_row (m_row (m_row (m_row (m_row I 85 (va_up F 0 (nI fo))) 86 (va_up C fo (nI sp))) 87 M) 88 X1) 89 md1) 90 ls1) 91 cm1) from (by rw [m_up_comm (by decide), m_up_comm (by decide), m_up_comm (by decide), m_up_comm (by decide), m_up_comm (by decide), m_up_r])]
    refine a_aload_n 1 dSlips_tryOut_104 rfl rfl ?_
    refine a_geta (r := 88) dSlips_tryOut_105 fl8_21 rfl ly_85 (by omega) (rf_85_3 hR') ?_
    refine a_geta (r := 89) dSlips_tryOut_108 fl8_57 rfl ly_88 (by omega) (rf_88_6 hR') ?_
    refine a_iconstN (a := 0) dSlips_tryOut_111 (by decide) ?_
    refine a_aload_n 1 dSlips_tryOut_112 rfl rfl ?_
    refine a_geta (r := 87) dSlips_tryOut_113 fl8_15 rfl ly_85 (by omega) (rf_85_2 hR') ?_
    refine a_bipushN (a := 6) dSlips_tryOut_116 (by decide) ?_
    refine a_aload_n 1 dSlips_tryOut_118 rfl rfl ?_
    refine a_geti dSlips_tryOut_119 fl8_25 rfl ly_85 (by omega) ?_
    rw [show (m_row (m_row (m_row (m_row (m_row (m_row (m_row I 85 (va_up F 0 (nI fo))) 86 (va_up C fo (nI sp))) 87 M) 88 X1) 89 md1) 90 ls1) 91 cm1) 85 0 = (nI fo) from rfl]
    refine a_imulN (a := 6) (b := fo) dSlips_tryOut_122 ?_
    refine a_bipushN (a := 6) dSlips_tryOut_123 (by decide) ?_
    refine a_copy dSlips_tryOut_125 (m_in (i := 985) (by decide +kernel) rfl) ly_89 ly_87 (by decide) (by omega) (by omega) (by decide) (nI_pos (by omega)) (by decide) (by decide) (by rw [nI_clamp (by omega), nI_clamp (by decide)]; omega) (Nat.le_of_ble_eq_true rfl) ?_
    refine a_mem (cp87 hf61) ?_; show AW _ _ _ _ _ _ _ _ _ (m_row (m_row (m_row (m_row (m_row (m_row (m_row I 85 (va_up F 0 (nI fo))) 86 (va_up C fo (nI sp))) 87 (va_cpy md1 M 0 (6 * fo) 6)) 88 X1) 89 md1) 90 ls1) 91 cm1) _ _ _
    refine a_aload_n 1 dSlips_tryOut_128 rfl rfl ?_
    refine a_dup dSlips_tryOut_129 rfl ?_
    refine a_geti dSlips_tryOut_130 fl8_25 rfl ly_85 (by omega) ?_
    rw [show (m_row (m_row (m_row (m_row (m_row (m_row (m_row I 85 (va_up F 0 (nI fo))) 86 (va_up C fo (nI sp))) 87 (va_cpy md1 M 0 (6 * fo) 6)) 88 X1) 89 md1) 90 ls1) 91 cm1) 85 0 = (nI fo) from rfl]
    refine a_iconstN (a := 1) dSlips_tryOut_133 (by decide) ?_
    refine a_iaddN (a := fo) (b := 1) dSlips_tryOut_134 ?_
    refine a_puti dSlips_tryOut_135 fl8_25 rfl ly_85 (by omega) ?_
    rw [show m_up (m_row (m_row (m_row (m_row (m_row (m_row (m_row I 85 (va_up F 0 (nI fo))) 86 (va_up C fo (nI sp))) 87 (va_cpy md1 M 0 (6 * fo) 6)) 88 X1) 89 md1) 90 ls1) 91 cm1) 85 0 (nI (fo + 1)) = (m_row (m_row (m_row (m_row (m_row (m_row (m_row I 85 (va_up F 0 (nI (fo + 1)))) 86 (va_up C fo (nI sp))) 87 (va_cpy md1 M 0 (6 * fo) 6)) 88 X1) 89 md1) 90 ls1) 91 cm1) from (by rw [m_up_comm (by decide), m_up_comm (by decide), m_up_comm (by decide), m_up_comm (by decide), m_up_comm (by decide), m_up_comm (by decide), m_up_r, show va_up (va_up F 0 (nI fo)) 0 (nI (fo + 1)) = (va_up F 0 (nI (fo + 1))) from va_uu])]
    exact a_vret dSlips_tryOut_138 rfl (hQ1 X1 md1 ls1 cm1 hag em)
  · refine a_if_eq (tgt := 138) dSlips_tryOut_91 (by decide) (fun _ => ?_) (fun c9 => False.elim (c9 (by rw [if_neg hag])))
    exact a_vret dSlips_tryOut_138 rfl (hQ0 hag X1 md1 ls1 cm1)
def fitL (P : Nat → Bool) : Nat → List Nat
  | 0 => []
  | k + 1 => if P k = true then fitL P k ++ [k] else fitL P k
theorem fitL_skip {P : Nat → Bool} {k : Nat} : ∀ m, (∀ j, k ≤ j → j < k + m → P j = false) → fitL P (k + m) = fitL P k := by
  intro m
  induction m with
  | zero => intro _; rfl
  | succ m ih =>
    intro h
    show (if P (k + m) = true then fitL P (k + m) ++ [k + m] else fitL P (k + m)) = _
    rw [h (k + m) (by omega) (by omega)]
    exact ih (fun j h1 h2 => h j h1 (by omega))
theorem fitL_len {P : Nat → Bool} : ∀ k, (fitL P k).length ≤ k := by
  intro k
  induction k with
  | zero => exact Nat.le_refl _
  | succ k ih =>
    unfold fitL
    split
    · rw [List.length_append]; show _ + 1 ≤ _; omega
    · omega
abbrev mayP (I : mI) (o nh nl sp : Nat) : Prop := sp = 99 ∨ (sp / 10 < nh ∧ sp % 10 < nl ∧ ¬ hmN (I (o + 2)) (sp % 10) = sp / 10)
def ftP (I : mI) (o g c nh nl sp : Nat) : Bool := decide (mayP I o nh nl sp ∧ agP I o g c nh nl sp)
abbrev ftL (I : mI) (o g c nh nl k : Nat) : List Nat := fitL (ftP I o g c nh nl) k
/-- codes and moods in their rows -/
def RL (I : mI) (o nl : Nat) (C M : Nat → Int32) (L : List Nat) : Prop := (∀ i, i < L.length → C i = nI (L.getD i 0)) ∧ ∀ i, i < L.length → ∀ h, h < 6 → M (6 * i + h) = moS I o nl (L.getD i 0) h
theorem RL_nil {I : mI} {o nl : Nat} {C M : Nat → Int32} : RL I o nl C M [] := ⟨fun i hi => absurd hi (Nat.not_lt_zero _), fun i hi => absurd hi (Nat.not_lt_zero _)⟩
theorem getD_app {L : List Nat} {x i : Nat} : (L ++ [x]).getD i 0 = if i < L.length then L.getD i 0 else if i = L.length then x else 0 := by
  rw [List.getD_eq_getElem?_getD, List.getElem?_append]
  by_cases h : i < L.length
  · rw [if_pos h, if_pos h, List.getD_eq_getElem?_getD]
  · rw [if_neg h, if_neg h]
    by_cases h2 : i = L.length
    · rw [if_pos h2, h2, Nat.sub_self]; rfl
    · rw [if_neg h2]
      cases e : i - L.length with
      | zero => omega
      | succ j => rfl
theorem RL_app {I : mI} {o nl sp : Nat} {C M md : Nat → Int32} {L : List Nat} (h : RL I o nl C M L) (hm : ∀ h, h < 6 → md h = moS I o nl sp h) : RL I o nl (va_up C L.length (nI sp)) (va_cpy md M 0 (6 * L.length) 6) (L ++ [sp]) := by
  have hl : (L ++ [sp]).length = L.length + 1 := by rw [List.length_append]; rfl
  refine ⟨fun i hi => ?_, fun i hi h2 hh => ?_⟩
  · rw [hl] at hi
    rw [getD_app]
    unfold va_up
    by_cases e : i = L.length
    · rw [if_pos e, if_neg (by omega), if_pos e]
    · rw [if_neg e, if_pos (by omega)]; exact h.1 i (by omega)
  · rw [hl] at hi
    rw [getD_app]
    by_cases e : i = L.length
    · rw [if_neg (by omega), if_pos e, ← hm h2 hh, show va_cpy md M 0 (6 * L.length) 6 (6 * i + h2) = md (0 + (6 * i + h2 - 6 * L.length)) from pk_cpy_in (by omega) (by omega)]
      congr 1; omega
    · rw [if_pos (by omega), show va_cpy md M 0 (6 * L.length) 6 (6 * i + h2) = M (6 * i + h2) from pk_cpy_out (by omega)]
      exact h.2 i (by omega) h2 hh
