abbrev sdC (I : mI) (x : Int32) : mI := m_up I 60 1 x
theorem sdC_o {I : mI} {x : Int32} {o : Nat} (ho : o ∈ m_offs) (k : Nat) (hk : k ≤ 8) : sdC I x (o + k) = I (o + k) := m_up_ne (off_60 ho k hk).1
theorem sdC_o0 {I : mI} {x : Int32} {o : Nat} (ho : o ∈ m_offs) : sdC I x o = I o := sdC_o ho 0 (by decide)
theorem cr60_sdG {I : mI} {md ls cm : Nat → Int32} {ni le sl dn fa id0 gr lo x : Int32} : m_up (cr60 I md ls cm ni le sl dn fa id0 gr lo) 60 1 x = cr60 (sdC I x) md ls cm ni le sl dn fa id0 gr lo := by
  unfold cr60
  rw [m_up_comm (by decide), m_up_comm (by decide), m_up_comm (by decide), m_up_r]
  congr 3
  funext i
  by_cases h : i = 60
  · subst h
    rw [m_row_eq, m_row_eq]
    funext k
    unfold va_up cf60
    by_cases hk : k = 1
    · subst hk; rfl
    · rw [if_neg hk]
      have e : sdC I x 60 k = I 60 k := m_up_off hk
      rw [e]
  · rw [m_row_ne h, m_row_ne h]; exact (m_up_ne h).symm
theorem cr60_sd {I : mI} {md ls cm : Nat → Int32} {ni le sl dn fa id0 gr lo x y : Int32} : m_up (cr60 (sdC I y) md ls cm ni le sl dn fa id0 gr lo) 60 1 x = cr60 (sdC I x) md ls cm ni le sl dn fa id0 gr lo := by
  rw [cr60_sdG, show sdC (sdC I y) x = sdC I x from m_up_up]
theorem sdC_ds {I : mI} {x : Int32} {o : Nat} (ho : o ∈ m_offs) : dsO (sdC I x) o = dsO I o := by
  funext l y; unfold dsO; rw [sdC_o ho 5 (by decide), sdC_o ho 3 (by decide), sdC_o ho 8 (by decide)]
abbrev doC (I : mI) (o nh nl : Nat) (s : cS) (u : Nat) (l h : Int32) : Option cS := doF nh nl (I (o + 2)) (dsO I o) (I (o + 5)) (I (o + 3)) nh s u l h
/-- the lowest behind a deed that may be done -/
def dmP (doit : cS → Nat → Int32 → Int32 → Option cS) (nh : Nat) (s : cS) (p : Int32 × Int32) (u : Nat) (l h : Int32) : Int32 × Int32 := match doit s u l h with
  | none => p
  | some s' => lwU nh u s' p
theorem c_drawBelow {S : Nat × (Nat → Int32)} {d n : Nat} {I : mI} {J : mJ} {R : mR} {md ls cm : Nat → Int32} {ni le sl dn fa id0 gr lo : Int32} {sd : Int32} {m : Nat} (hn : 122 ≤ n) (hR : m_fin R) (hm : 0 < m) (hm2 : m < 2 ^ 31) : RUN S d YCourse_drawBelow [.ref 60, .int (nI m)] (cr60 (sdC I sd) md ls cm ni le sl dn fa id0 gr lo) J R n (some (.int (nI (sdN (nxS sd) % m)))) (cr60 (sdC I (nxS sd)) md ls cm ni le sl dn fa id0 gr lo) J R n := by
  have hs := sdN_lt (nxS sd)
  show AW S _ YCourse_drawBelow n n _ 0 [(0, .ref 60), (1, .int (nI m))] [] (cr60 (sdC I sd) md ls cm ni le sl dn fa id0 gr lo) J R n
  refine a_aload_n 0 dCourse_drawBelow_0 rfl rfl ?_
  refine a_aload_n 0 dCourse_drawBelow_1 rfl rfl ?_
  refine a_geti dCourse_drawBelow_2 fl2_98 rfl ly_60 (by omega) ?_
  rw [show (cr60 (sdC I sd) md ls cm ni le sl dn fa id0 gr lo) 60 1 = sd from rfl]
  refine a_ldc (v := 1103515245) dCourse_drawBelow_5 cn2_110 ?_
  refine a_imul dCourse_drawBelow_7 ?_
  refine a_sipushN (a := 12345) dCourse_drawBelow_8 (by decide) ?_
  refine a_iadd dCourse_drawBelow_11 ?_
  refine a_puti dCourse_drawBelow_12 fl2_98 rfl ly_60 (by omega) ?_
  rw [cr60_sd]
  refine a_iload_n 1 dCourse_drawBelow_15 rfl rfl ?_
  refine a_if_le (tgt := 31) dCourse_drawBelow_16 (by decide) (fun c => False.elim (absurd (nI_le0 (by omega) c) (by omega))) (fun _ => ?_)
  refine a_aload_n 0 dCourse_drawBelow_19 rfl rfl ?_
  refine a_geti dCourse_drawBelow_20 fl2_98 rfl ly_60 (by omega) ?_
  rw [show (cr60 (sdC I ((sd * 1103515245) + (nI 12345))) md ls cm ni le sl dn fa id0 gr lo) 60 1 = ((sd * 1103515245) + (nI 12345)) from rfl]
  refine a_bipushN (a := 16) dCourse_drawBelow_23 (by decide) ?_
  refine a_iushr dCourse_drawBelow_25 ?_
  rw [show (sd * 1103515245 + nI 12345) = nxS sd from rfl, ushr16]
  refine a_iload_n 1 dCourse_drawBelow_26 rfl rfl ?_
  refine a_iremN dCourse_drawBelow_27 (by omega) (by omega) (by omega) ?_
  refine a_goto (tgt := 32) dCourse_drawBelow_28 (by decide) ?_
  exact a_iret dCourse_drawBelow_32 rfl ⟨rfl, rfl, rfl, rfl⟩
theorem c_mayDoC {S : Nat × (Nat → Int32)} {d n : Nat} {I : mI} {J : mJ} {R : mR} {s : cS} {p : Int32 × Int32} {sd : Int32} (hn : 122 ≤ n) (hR : m_fin R) {o nh nl : Nat} (ho : o ∈ m_offs) (hr : offR R o) (hon : o + 8 < n) (hRo : R 60 0 = some o) (hh : I o 0 = nI nh) (hnh : nh ≤ 6) (hl : I o 1 = nI nl) (hnl : nl ≤ 10) {u : Nat} {x y : Int32} (hu : u < 4) (hW : WFc I o nl) (hH : WFh (I (o + 2)) nl) (hL : WFl s.2.1) : RUN S (d + 2) YCourse_mayDo [.ref 60, .int (nI u), .int x, .int y] (ccT (sdC I sd) s p) J R n (some (.int (if doC I o nh nl s u x y = none then 0 else 1))) (ccT (sdC I sd) ((doC I o nh nl s u x y).getD s) (dmP (doC I o nh nl) nh s p u x y)) J R n := by
  have h := c_mayDoG (S := S) (d := d) (I := sdC I sd) (J := J) (R := R) (s := s) (p := p) (u := u) (x := x) (y := y) hn hR ho hr hon hRo (by rw [sdC_o0 ho]; exact hh) hnh (by rw [sdC_o0 ho]; exact hl) hnl hu (fun l hl2 => by rw [sdC_o ho 3 (by decide)]; exact hW l hl2) (by rw [sdC_o ho 2 (by decide)]; exact hH) hL
  rw [sdC_ds ho, sdC_o ho 2 (by decide), sdC_o ho 5 (by decide), sdC_o ho 3 (by decide)] at h
  unfold dmP
  cases e : doC I o nh nl s u x y with
  | none =>
    rw [show doF nh nl (I (o + 2)) (dsO I o) (I (o + 5)) (I (o + 3)) nh s u x y = none from e] at h
    exact h
  | some s' =>
    rw [show doF nh nl (I (o + 2)) (dsO I o) (I (o + 5)) (I (o + 3)) nh s u x y = some s' from e] at h
    exact h
/-- the lowest behind a deed drawn -/
def drP (nh nl : Nat) (doit : cS → Nat → Int32 → Int32 → Option cS) (sd : Int32) (s : cS) (p : Int32 × Int32) : Int32 × Int32 :=
  if sdN (nxS sd) % 8 = 7 then dmP doit nh s p 3 (-1) (-1)
  else if nl = 0 then p
  else if sdN (nxS sd) % 8 = 4 ∨ sdN (nxS sd) % 8 = 5 then dmP doit nh s p 1 (nI (sdN (nxS (nxS sd)) % nl)) (nI (sdN (nxS (nxS (nxS sd))) % nh))
  else dmP doit nh s p (if sdN (nxS sd) % 8 = 6 then 2 else 0) (nI (sdN (nxS (nxS sd)) % nl)) (-1)
theorem c_drawDeed {S : Nat × (Nat → Int32)} {d n : Nat} {I : mI} {J : mJ} {R : mR} (hn : 122 ≤ n) (hR : m_fin R) {o nh nl : Nat} (ho : o ∈ m_offs) (hr : offR R o) (hon : o + 8 < n) (hRo : R 60 0 = some o) (hh : I o 0 = nI nh) (hnh : nh ≤ 6) (hl : I o 1 = nI nl) (hnl : nl ≤ 10) (hW : WFc I o nl) (hH : WFh (I (o + 2)) nl) {sd : Int32} {s : cS} {p : Int32 × Int32} (hnh1 : 1 ≤ nh) (hL : WFl s.2.1) : RUN S (d + 3) YCourse_drawDeed [.ref 60] (ccT (sdC I sd) s p) J R n none (ccT (sdC I (drF nh nl (doC I o nh nl) sd s).1) (drF nh nl (doC I o nh nl) sd s).2 (drP nh nl (doC I o nh nl) sd s p)) J R n := by
  have hs1 := sdN_lt (nxS sd)
  have hs2 := sdN_lt (nxS (nxS sd))
  have hs3 := sdN_lt (nxS (nxS (nxS sd)))
  show AW S _ YCourse_drawDeed n n _ 0 [(0, .ref 60)] [] (cr60 (sdC I sd) s.1 s.2.1 s.2.2.1 s.2.2.2.1 s.2.2.2.2.1 s.2.2.2.2.2.1 s.2.2.2.2.2.2.1 s.2.2.2.2.2.2.2.1 s.2.2.2.2.2.2.2.2 p.2 p.1) J R n
  refine a_aload_n 0 dCourse_drawDeed_0 rfl rfl ?_
  refine a_bipushN (a := 8) dCourse_drawDeed_1 (by decide) ?_
  refine a_callV (Q' := m_res (some (.int (nI (sdN (nxS sd) % 8)))) (cr60 (sdC I (nxS sd)) s.1 s.2.1 s.2.2.1 s.2.2.2.1 s.2.2.2.2.1 s.2.2.2.2.2.1 s.2.2.2.2.2.2.1 s.2.2.2.2.2.2.2.1 s.2.2.2.2.2.2.2.2 p.2 p.1) J R) (as := [.int (nI 8)]) (st := []) dCourse_drawDeed_3 ml2_104 rfl (Nat.le_of_ble_eq_true rfl) ly_60 rfl rfl (by decide) (by omega) (Nat.le_of_ble_eq_true rfl) rfl (Nat.le_refl _) (Nat.le_refl _) (c_drawBelow (m := 8) hn hR (by omega) (by omega)) (m_go ?_)
  show AW _ _ _ _ _ _ _ _ [.int (nI (sdN (nxS sd) % 8))] _ _ _ _
  refine a_istore_n (lv' := [(1, .int (nI (sdN (nxS sd) % 8))), (0, .ref 60)]) dCourse_drawDeed_6 rfl (by decide) rfl ?_
  refine a_iload_n 0 dCourse_drawDeed_7 rfl rfl ?_
  refine a_bipushN (a := 7) dCourse_drawDeed_8 (by decide) ?_
  refine a_icmp_neN (tgt := 24) dCourse_drawDeed_10 (by decide) (by omega) (by omega) (fun c10 => ?_) (fun c10 => ?_)
  · refine a_aload_n 1 dCourse_drawDeed_24 rfl rfl ?_
    refine a_geta (r := o) dCourse_drawDeed_25 fl2_21 rfl ly_60 (by omega) hRo ?_
    refine a_geti dCourse_drawDeed_28 fl2_25 rfl (of_l0 ho) (by omega) ?_
    rw [show (cr60 (sdC I (nxS sd)) s.1 s.2.1 s.2.2.1 s.2.2.2.1 s.2.2.2.2.1 s.2.2.2.2.2.1 s.2.2.2.2.2.2.1 s.2.2.2.2.2.2.2.1 s.2.2.2.2.2.2.2.2 p.2 p.1) o 1 = (nI nl) from (by rw [cr60_off0 ho, sdC_o0 ho]; exact hl)]
    refine a_if_le (tgt := 97) dCourse_drawDeed_31 (by decide) (fun c31 => ?_) (fun c31 => ?_)
    · exact a_vret dCourse_drawDeed_97 rfl ⟨rfl, by unfold drF drP; simp only [if_neg (show ¬ sdN (nxS sd) % 8 = 7 by omega), if_pos (show nl = 0 from nI_le0 (by omega) c31)], rfl, rfl⟩
    · refine a_aload_n 1 dCourse_drawDeed_34 rfl rfl ?_
      refine a_aload_n 1 dCourse_drawDeed_35 rfl rfl ?_
      refine a_geta (r := o) dCourse_drawDeed_36 fl2_21 rfl ly_60 (by omega) hRo ?_
      refine a_geti dCourse_drawDeed_39 fl2_25 rfl (of_l0 ho) (by omega) ?_
      rw [show (cr60 (sdC I (nxS sd)) s.1 s.2.1 s.2.2.1 s.2.2.2.1 s.2.2.2.2.1 s.2.2.2.2.2.1 s.2.2.2.2.2.2.1 s.2.2.2.2.2.2.2.1 s.2.2.2.2.2.2.2.2 p.2 p.1) o 1 = (nI nl) from (by rw [cr60_off0 ho, sdC_o0 ho]; exact hl)]
      refine a_callV (Q' := m_res (some (.int (nI (sdN (nxS (nxS sd)) % nl)))) (cr60 (sdC I (nxS (nxS sd))) s.1 s.2.1 s.2.2.1 s.2.2.2.1 s.2.2.2.2.1 s.2.2.2.2.2.1 s.2.2.2.2.2.2.1 s.2.2.2.2.2.2.2.1 s.2.2.2.2.2.2.2.2 p.2 p.1) J R) (as := [.int (nI nl)]) (st := []) dCourse_drawDeed_42 ml2_104 rfl (Nat.le_of_ble_eq_true rfl) ly_60 rfl rfl (by decide) (by omega) (Nat.le_of_ble_eq_true rfl) rfl (Nat.le_refl _) (Nat.le_refl _) (c_drawBelow (m := nl) hn hR (Nat.pos_of_ne_zero (fun q => c31 (by rw [q]; decide))) (by omega)) (m_go ?_)
      show AW _ _ _ _ _ _ _ _ [.int (nI (sdN (nxS (nxS sd)) % nl))] _ _ _ _
      refine a_istore_n (lv' := [(2, .int (nI (sdN (nxS (nxS sd)) % nl))), (1, .int (nI (sdN (nxS sd) % 8))), (0, .ref 60)]) dCourse_drawDeed_45 rfl (by decide) rfl ?_
      refine a_iload_n 1 dCourse_drawDeed_46 rfl rfl ?_
      refine a_iconstN (a := 4) dCourse_drawDeed_47 (by decide) ?_
      refine a_icmp_geN (tgt := 62) dCourse_drawDeed_48 (by decide) (by omega) (by omega) (fun c48 => ?_) (fun c48 => ?_)
      · refine a_iload_n 1 dCourse_drawDeed_62 rfl rfl ?_
        refine a_bipushN (a := 6) dCourse_drawDeed_63 (by decide) ?_
        refine a_icmp_geN (tgt := 89) dCourse_drawDeed_65 (by decide) (by omega) (by omega) (fun c65 => ?_) (fun c65 => ?_)
        · refine a_aload_n 2 dCourse_drawDeed_89 rfl rfl ?_
          refine a_iconstN (a := 2) dCourse_drawDeed_90 (by decide) ?_
          refine a_iload_n 0 dCourse_drawDeed_91 rfl rfl ?_
          refine a_iconst (v := -1) dCourse_drawDeed_92 (by decide) ?_
          refine a_callV (Q' := m_res (some (.int (if (doC I o nh nl s 2 (nI (sdN (nxS (nxS sd)) % nl)) (-1)) = none then 0 else 1))) (ccT (sdC I (nxS (nxS sd))) ((doC I o nh nl s 2 (nI (sdN (nxS (nxS sd)) % nl)) (-1)).getD s) (dmP (doC I o nh nl) nh s p 2 (nI (sdN (nxS (nxS sd)) % nl)) (-1))) J R) (as := [.int (nI 2), .int (nI (sdN (nxS (nxS sd)) % nl)), .int (-1)]) (st := []) dCourse_drawDeed_93 ml2_94 rfl (Nat.le_of_ble_eq_true rfl) ly_60 rfl rfl (by decide) (by omega) (Nat.le_of_ble_eq_true rfl) rfl (Nat.le_refl _) (Nat.le_refl _) (c_mayDoC (s := s) (p := p) (sd := (nxS (nxS sd))) hn hR ho hr hon hRo hh hnh hl hnl (by omega) hW hH hL) (m_go ?_)
          show AW _ _ _ _ _ _ _ _ [.int (if (doC I o nh nl s 2 (nI (sdN (nxS (nxS sd)) % nl)) (-1)) = none then 0 else 1)] _ _ _ _
          refine a_pop dCourse_drawDeed_96 rfl ?_
          exact a_vret dCourse_drawDeed_97 rfl ⟨rfl, by unfold drF drP; simp only [if_neg (show ¬ sdN (nxS sd) % 8 = 7 by omega), if_neg (show ¬ nl = 0 from fun q => c31 (by rw [q]; decide)), if_neg (show ¬ (sdN (nxS sd) % 8 = 4 ∨ sdN (nxS sd) % 8 = 5) by omega), if_pos (show sdN (nxS sd) % 8 = 6 by omega)], rfl, rfl⟩
        · refine a_aload_n 2 dCourse_drawDeed_68 rfl rfl ?_
          refine a_iconstN (a := 1) dCourse_drawDeed_69 (by decide) ?_
          refine a_iload_n 0 dCourse_drawDeed_70 rfl rfl ?_
          refine a_aload_n 2 dCourse_drawDeed_71 rfl rfl ?_
          refine a_aload_n 2 dCourse_drawDeed_72 rfl rfl ?_
          refine a_geta (r := o) dCourse_drawDeed_73 fl2_21 rfl ly_60 (by omega) hRo ?_
          refine a_geti dCourse_drawDeed_76 fl2_108 rfl (of_l0 ho) (by omega) ?_
          rw [show (cr60 (sdC I (nxS (nxS sd))) s.1 s.2.1 s.2.2.1 s.2.2.2.1 s.2.2.2.2.1 s.2.2.2.2.2.1 s.2.2.2.2.2.2.1 s.2.2.2.2.2.2.2.1 s.2.2.2.2.2.2.2.2 p.2 p.1) o 0 = (nI nh) from (by rw [cr60_off0 ho, sdC_o0 ho]; exact hh)]
          refine a_callV (Q' := m_res (some (.int (nI (sdN (nxS (nxS (nxS sd))) % nh)))) (cr60 (sdC I (nxS (nxS (nxS sd)))) s.1 s.2.1 s.2.2.1 s.2.2.2.1 s.2.2.2.2.1 s.2.2.2.2.2.1 s.2.2.2.2.2.2.1 s.2.2.2.2.2.2.2.1 s.2.2.2.2.2.2.2.2 p.2 p.1) J R) (as := [.int (nI nh)]) (st := [.int (nI (sdN (nxS (nxS sd)) % nl)), .int (nI 1), .ref 60]) dCourse_drawDeed_79 ml2_104 rfl (Nat.le_of_ble_eq_true rfl) ly_60 rfl rfl (by decide) (by omega) (Nat.le_of_ble_eq_true rfl) rfl (Nat.le_refl _) (Nat.le_refl _) (c_drawBelow (m := nh) hn hR (by omega) (by omega)) (m_go ?_)
          show AW _ _ _ _ _ _ _ _ [.int (nI (sdN (nxS (nxS (nxS sd))) % nh)), .int (nI (sdN (nxS (nxS sd)) % nl)), .int (nI 1), .ref 60] _ _ _ _
          refine a_callV (Q' := m_res (some (.int (if (doC I o nh nl s 1 (nI (sdN (nxS (nxS sd)) % nl)) (nI (sdN (nxS (nxS (nxS sd))) % nh))) = none then 0 else 1))) (ccT (sdC I (nxS (nxS (nxS sd)))) ((doC I o nh nl s 1 (nI (sdN (nxS (nxS sd)) % nl)) (nI (sdN (nxS (nxS (nxS sd))) % nh))).getD s) (dmP (doC I o nh nl) nh s p 1 (nI (sdN (nxS (nxS sd)) % nl)) (nI (sdN (nxS (nxS (nxS sd))) % nh)))) J R) (as := [.int (nI 1), .int (nI (sdN (nxS (nxS sd)) % nl)), .int (nI (sdN (nxS (nxS (nxS sd))) % nh))]) (st := []) dCourse_drawDeed_82 ml2_94 rfl (Nat.le_of_ble_eq_true rfl) ly_60 rfl rfl (by decide) (by omega) (Nat.le_of_ble_eq_true rfl) rfl (Nat.le_refl _) (Nat.le_refl _) (c_mayDoC (s := s) (p := p) (sd := (nxS (nxS (nxS sd)))) hn hR ho hr hon hRo hh hnh hl hnl (by omega) hW hH hL) (m_go ?_)
          show AW _ _ _ _ _ _ _ _ [.int (if (doC I o nh nl s 1 (nI (sdN (nxS (nxS sd)) % nl)) (nI (sdN (nxS (nxS (nxS sd))) % nh))) = none then 0 else 1)] _ _ _ _
          refine a_pop dCourse_drawDeed_85 rfl ?_
          refine a_goto (tgt := 97) dCourse_drawDeed_86 (by decide) ?_
          exact a_vret dCourse_drawDeed_97 rfl ⟨rfl, by unfold drF drP; simp only [if_neg (show ¬ sdN (nxS sd) % 8 = 7 by omega), if_neg (show ¬ nl = 0 from fun q => c31 (by rw [q]; decide)), if_pos (show sdN (nxS sd) % 8 = 4 ∨ sdN (nxS sd) % 8 = 5 by omega)], rfl, rfl⟩
      · refine a_aload_n 2 dCourse_drawDeed_51 rfl rfl ?_
        refine a_iconstN (a := 0) dCourse_drawDeed_52 (by decide) ?_
        refine a_iload_n 0 dCourse_drawDeed_53 rfl rfl ?_
        refine a_iconst (v := -1) dCourse_drawDeed_54 (by decide) ?_
        refine a_callV (Q' := m_res (some (.int (if (doC I o nh nl s 0 (nI (sdN (nxS (nxS sd)) % nl)) (-1)) = none then 0 else 1))) (ccT (sdC I (nxS (nxS sd))) ((doC I o nh nl s 0 (nI (sdN (nxS (nxS sd)) % nl)) (-1)).getD s) (dmP (doC I o nh nl) nh s p 0 (nI (sdN (nxS (nxS sd)) % nl)) (-1))) J R) (as := [.int (nI 0), .int (nI (sdN (nxS (nxS sd)) % nl)), .int (-1)]) (st := []) dCourse_drawDeed_55 ml2_94 rfl (Nat.le_of_ble_eq_true rfl) ly_60 rfl rfl (by decide) (by omega) (Nat.le_of_ble_eq_true rfl) rfl (Nat.le_refl _) (Nat.le_refl _) (c_mayDoC (s := s) (p := p) (sd := (nxS (nxS sd))) hn hR ho hr hon hRo hh hnh hl hnl (by omega) hW hH hL) (m_go ?_)
        show AW _ _ _ _ _ _ _ _ [.int (if (doC I o nh nl s 0 (nI (sdN (nxS (nxS sd)) % nl)) (-1)) = none then 0 else 1)] _ _ _ _
        refine a_pop dCourse_drawDeed_58 rfl ?_
        refine a_goto (tgt := 97) dCourse_drawDeed_59 (by decide) ?_
        exact a_vret dCourse_drawDeed_97 rfl ⟨rfl, by unfold drF drP; simp only [if_neg (show ¬ sdN (nxS sd) % 8 = 7 by omega), if_neg (show ¬ nl = 0 from fun q => c31 (by rw [q]; decide)), if_neg (show ¬ (sdN (nxS sd) % 8 = 4 ∨ sdN (nxS sd) % 8 = 5) by omega), if_neg (show ¬ sdN (nxS sd) % 8 = 6 by omega)], rfl, rfl⟩
  · refine a_aload_n 1 dCourse_drawDeed_13 rfl rfl ?_
    refine a_iconstN (a := 3) dCourse_drawDeed_14 (by decide) ?_
    refine a_iconst (v := -1) dCourse_drawDeed_15 (by decide) ?_
    refine a_iconst (v := -1) dCourse_drawDeed_16 (by decide) ?_
    refine a_callV (Q' := m_res (some (.int (if (doC I o nh nl s 3 (-1) (-1)) = none then 0 else 1))) (ccT (sdC I (nxS sd)) ((doC I o nh nl s 3 (-1) (-1)).getD s) (dmP (doC I o nh nl) nh s p 3 (-1) (-1))) J R) (as := [.int (nI 3), .int (-1), .int (-1)]) (st := []) dCourse_drawDeed_17 ml2_94 rfl (Nat.le_of_ble_eq_true rfl) ly_60 rfl rfl (by decide) (by omega) (Nat.le_of_ble_eq_true rfl) rfl (Nat.le_refl _) (Nat.le_refl _) (c_mayDoC (s := s) (p := p) (sd := (nxS sd)) hn hR ho hr hon hRo hh hnh hl hnl (by omega) hW hH hL) (m_go ?_)
    show AW _ _ _ _ _ _ _ _ [.int (if (doC I o nh nl s 3 (-1) (-1)) = none then 0 else 1)] _ _ _ _
    refine a_pop dCourse_drawDeed_20 rfl ?_
    refine a_goto (tgt := 97) dCourse_drawDeed_21 (by decide) ?_
    exact a_vret dCourse_drawDeed_97 rfl ⟨rfl, by unfold drF drP; simp only [if_pos (show sdN (nxS sd) % 8 = 7 by omega)], rfl, rfl⟩
def itF (F : Int32 → cS → Int32 × cS) : Nat → Int32 × cS → Int32 × cS
  | 0, q => q
  | k + 1, q => F (itF F k q).1 (itF F k q).2
def itG (F : Int32 → cS → Int32 × cS) (G : Int32 → cS → Int32 × Int32 → Int32 × Int32) : Nat → Int32 × cS × (Int32 × Int32) → Int32 × cS × (Int32 × Int32)
  | 0, q => q
  | k + 1, q => ((F (itG F G k q).1 (itG F G k q).2.1).1, (F (itG F G k q).1 (itG F G k q).2.1).2, G (itG F G k q).1 (itG F G k q).2.1 (itG F G k q).2.2)
theorem itG_N {F : Int32 → cS → Int32 × cS} {G : Int32 → cS → Int32 × Int32 → Int32 × Int32} {sd : Int32} {s : cS} {p : Int32 × Int32} : ∀ k, (itG F G k (sd, s, p)).1 = (itF F k (sd, s)).1 ∧ (itG F G k (sd, s, p)).2.1 = (itF F k (sd, s)).2 := by
  intro k
  induction k with
  | zero => exact ⟨rfl, rfl⟩
  | succ k ih =>
    obtain ⟨h1, h2⟩ := ih
    rw [itG, itF]
    generalize itG F G k (sd, s, p) = q at h1 h2 ⊢
    generalize itF F k (sd, s) = r at h1 h2 ⊢
    rw [h1, h2]
    exact ⟨rfl, rfl⟩
theorem dnN_it {nh nl : Nat} {doit : cS → Nat → Int32 → Int32 → Option cS} {q : Int32 × cS} : ∀ k, dnN nh nl doit k q = itF (drF nh nl doit) k q := by
  intro k
  induction k with
  | zero => rw [dnN, itF]
  | succ k ih => rw [dnN, itF, ih]
theorem itF_ok {F : Int32 → cS → Int32 × cS} (hF : ∀ sd s, WFl s.2.1 → WFl (F sd s).2.2.1) {q : Int32 × cS} (hq : WFl q.2.2.1) : ∀ k, WFl (itF F k q).2.2.1 := by
  intro k
  induction k with
  | zero => exact hq
  | succ k ih => rw [itF]; exact hF _ _ ih
theorem l_draw {S : Nat × (Nat → Int32)} {d n : Nat} {I : mI} {J : mJ} {R : mR} (hn : 122 ≤ n) (hR : m_fin R) {F : Int32 → cS → Int32 × cS} {G : Int32 → cS → Int32 × Int32 → Int32 × Int32} (hF : ∀ sd s, WFl s.2.1 → WFl (F sd s).2.2.1) (hst : ∀ sd s p, WFl s.2.1 → RUN S (d + 3) YCourse_drawDeed [.ref 60] (ccT (sdC I sd) s p) J R n none (ccT (sdC I (F sd s).1) (F sd s).2 (G sd s p)) J R n) {sd : Int32} {s : cS} {p : Int32 × Int32} (hL : WFl s.2.1) {N : Nat} (hN : N ≤ 60) {Q : Option Value → mI → mJ → mR → Prop} (hQ : ∀ q, itG F G N (sd, s, p) = q → Q none (ccT (sdC I q.1) q.2.1 q.2.2) J R) : ∀ m k, k + m = N → ∀ q, itG F G k (sd, s, p) = q → AW S (d + 4) YCourse_draw n n Q 13 [(4, .int (nI k)), (0, .ref 60), (3, .int (nI N))] [] (ccT (sdC I q.1) q.2.1 q.2.2) J R n := by
  intro m
  induction m with
  | zero =>
    intro k hk9 q es
    rw [show k = N by omega] at es ⊢
    refine a_iload 0 dCourse_draw_13 rfl ?_
    refine a_iload_n 2 dCourse_draw_15 rfl rfl ?_
    refine a_icmp_geN (tgt := 29) dCourse_draw_16 (by decide) (by omega) (by omega) (fun _ => ?_) (fun c => False.elim (by omega))
    exact a_vret dCourse_draw_29 rfl (hQ q es)
  | succ m ih =>
    intro k hk9 q es
    have hLq : WFl q.2.1.2.1 := by rw [← es, (itG_N k).2]; exact itF_ok hF hL k
    refine a_iload 0 dCourse_draw_13 rfl ?_
    refine a_iload_n 2 dCourse_draw_15 rfl rfl ?_
    refine a_icmp_geN (tgt := 29) dCourse_draw_16 (by decide) (by omega) (by omega) (fun c => False.elim (by omega)) (fun _ => ?_)
    refine a_aload_n 1 dCourse_draw_19 rfl rfl ?_
    refine a_callV (Q' := m_res none (ccT (sdC I (F q.1 q.2.1).1) (F q.1 q.2.1).2 (G q.1 q.2.1 q.2.2)) J R) (as := []) (st := []) dCourse_draw_20 ml2_101 rfl (Nat.le_of_ble_eq_true rfl) ly_60 rfl rfl (by decide) (by omega) (Nat.le_of_ble_eq_true rfl) rfl (Nat.le_refl _) (Nat.le_refl _) (hst q.1 q.2.1 q.2.2 hLq) (m_go ?_)
    show AW _ _ _ _ _ _ _ _ [] _ _ _ _
    refine a_iincN (lv' := [(4, .int (nI (k + 1))), (0, .ref 60), (3, .int (nI N))]) (j := 0) dCourse_draw_23 rfl (by decide) rfl ?_
    refine a_goto (tgt := 13) dCourse_draw_26 (by decide) ?_
    refine a_locs (lv' := [(4, .int (nI (k + 1))), (0, .ref 60), (3, .int (nI N))]) [0, 1, 2] rfl ?_
    exact ih (k + 1) (by omega) ((F q.1 q.2.1).1, (F q.1 q.2.1).2, G q.1 q.2.1 q.2.2) (by unfold itG; rw [es])
theorem b_draw {S : Nat × (Nat → Int32)} {d n : Nat} {I : mI} {J : mJ} {R : mR} (hn : 122 ≤ n) (hR : m_fin R) {o nh nl : Nat} (ho : o ∈ m_offs) (hr : offR R o) (hon : o + 8 < n) (hh : I o 0 = nI nh) (hnh : nh ≤ 6) (hl : I o 1 = nI nl) (hnl : nl ≤ 10) (hW : WFc I o nl) (hH : WFh (I (o + 2)) nl) (hnh1 : 1 ≤ nh) {sd : Int32} {N : Nat} (hN : N ≤ 60) {Q : Option Value → mI → mJ → mR → Prop} (hQ : ∀ q, itG (drF nh nl (doC I o nh nl)) (drP nh nl (doC I o nh nl)) N (sd, opI I o nl, opQ I o nh) = q → Q none (ccT (sdC I q.1) q.2.1 q.2.2) J (m_up R 60 0 (some o))) : AW S (d + 4) YCourse_draw n n Q 0 [(0, .ref 60), (1, .ref o), (2, .int sd), (3, .int (nI N))] [] I J R n := by
  have hR' := fin_60 (o := o) hR
  have hr' := offR_60 (v := o) ho hr
  have hRo' : m_up R 60 0 (some o) 60 0 = some o := m_up_at
  have hdw : ∀ s : cS, WFl s.2.1 → ∀ u l h s', doC I o nh nl s u l h = some s' → WFl s'.2.1 := fun s hs u l h s' e => doF_WFl hnl (fun l hl => hW.kok hl) hs e
  refine a_aload_n 0 dCourse_draw_0 rfl rfl ?_
  refine a_aload_n 1 dCourse_draw_1 rfl rfl ?_
  refine a_callV (Q' := m_res none (cr60 I (opI I o nl).1 (opI I o nl).2.1 (opI I o nl).2.2.1 (opI I o nl).2.2.2.1 (opI I o nl).2.2.2.2.1 (opI I o nl).2.2.2.2.2.1 (opI I o nl).2.2.2.2.2.2.1 (opI I o nl).2.2.2.2.2.2.2.1 (opI I o nl).2.2.2.2.2.2.2.2 (opQ I o nh).2 (opQ I o nh).1) J (m_up R 60 0 (some o))) (as := [.ref o]) (st := []) dCourse_draw_2 ml2_71 rfl (Nat.le_of_ble_eq_true rfl) ly_60 rfl rfl (by decide) (by omega) (Nat.le_of_ble_eq_true rfl) rfl (Nat.le_refl _) (Nat.le_refl _) (c_begin0 hn hR ho hr hon hh hnh hl hnl) (m_go ?_)
  show AW _ _ _ _ _ _ _ _ [] _ _ _ _
  refine a_aload_n 0 dCourse_draw_5 rfl rfl ?_
  refine a_iload_n 2 dCourse_draw_6 rfl rfl ?_
  refine a_puti dCourse_draw_7 fl2_98 rfl ly_60 (by omega) ?_
  rw [cr60_sdG]
  refine a_iconstN (a := 0) dCourse_draw_10 (by decide) ?_
  refine a_istore (lv' := [(4, .int (nI 0)), (0, .ref 60), (1, .ref o), (2, .int sd), (3, .int (nI N))]) dCourse_draw_11 (by decide) rfl ?_
  refine a_locs (lv' := [(4, .int (nI 0)), (0, .ref 60), (3, .int (nI N))]) [0, 1, 4] rfl ?_
  have hA9 : WFl (opI I o nl).2.1 := opC_WFl
  generalize opI I o nl = A9 at hQ hA9 ⊢
  generalize opQ I o nh = B9 at hQ ⊢
  exact l_draw hn hR' (F := drF nh nl (doC I o nh nl)) (G := drP nh nl (doC I o nh nl)) (fun sd s hs => drF_WFl (hdw s hs) hs) (fun sd s p hs => c_drawDeed hn hR' ho hr' hon hRo' hh hnh hl hnl hW hH hnh1 hs) (s := A9) (p := B9) (sd := sd) hA9 hN hQ N 0 (by omega) (sd, A9, B9) (by rw [itG])
theorem q_S_drawn0 {S : Nat × (Nat → Int32)} {d n : Nat} {I : mI} {J : mJ} {R : mR} (hn : 122 ≤ n) (hR : m_fin R) {x : Int32} (h0 : f_of x (I 3 0) = 0) {sd y t : Int32}  : AW S (d + 5) YS_drawn n n (qV I R (.int (-1000))) 0 [(0, .ref 0), (1, .int x), (2, .int sd), (3, .int y), (4, .int t)] [] I J R n := by
  refine a_aload_n 0 dS_drawn_0 rfl rfl ?_
  refine a_geta (r := 1) dS_drawn_1 fl11_10 rfl ly_0 (by omega) (rf_0_0 hR) ?_
  refine a_iload_n 1 dS_drawn_4 rfl rfl ?_
  refine a_callV (Q' := m_res (some (.null)) I J R) (as := [.int x]) (st := []) dS_drawn_5 ml11_101 rfl (Nat.le_of_ble_eq_true rfl) ly_1 rfl rfl (by decide) (by omega) (Nat.le_of_ble_eq_true rfl) rfl (Nat.le_refl _) (Nat.le_refl _) (c_Told_officeAt0 hn hR h0) (m_go ?_)
  show AW _ _ _ _ _ _ _ _ [.null] _ _ _ _
  refine a_astoreN (lv' := [(5, .null), (0, .ref 0), (1, .int x), (2, .int sd), (3, .int y), (4, .int t)]) dS_drawn_8 (by decide) rfl ?_
  refine a_aloadN 0 dS_drawn_10 rfl ?_
  refine a_ifnullN (tgt := 25) dS_drawn_12 (by decide) ?_
  refine a_sipush (v := -1000) dS_drawn_25 (by decide) ?_
  exact a_iret dS_drawn_28 rfl ⟨rfl, KP.refl, (KF.refl hR)⟩
theorem q_S_drawn1 {S : Nat × (Nat → Int32)} {d n : Nat} {I : mI} {J : mJ} {R : mR} (hn : 122 ≤ n) (hR : m_fin R) {o nh nl : Nat} (ho : o ∈ m_offs) (hr : offR R o) (hon : o + 8 < n) (hh : I o 0 = nI nh) (hnh : nh ≤ 6) (hl : I o 1 = nI nl) (hnl : nl ≤ 10) (hW : WFc I o nl) (hH : WFh (I (o + 2)) nl) {k : Nat} (h1 : f_of (nI k) (I 3 0) = 1) (hk : k < 2) (hro : R 4 k = some o) {sd y t : Int32} (hy : y < 0 ∨ nI 60 < y)  : AW S (d + 5) YS_drawn n n (qV I R (.int (-1000))) 0 [(0, .ref 0), (1, .int (nI k)), (2, .int sd), (3, .int y), (4, .int t)] [] I J R n := by
  refine a_aload_n 0 dS_drawn_0 rfl rfl ?_
  refine a_geta (r := 1) dS_drawn_1 fl11_10 rfl ly_0 (by omega) (rf_0_0 hR) ?_
  refine a_iload_n 1 dS_drawn_4 rfl rfl ?_
  refine a_callV (Q' := m_res (some (.ref o)) I J R) (as := [.int (nI k)]) (st := []) dS_drawn_5 ml11_101 rfl (Nat.le_of_ble_eq_true rfl) ly_1 rfl rfl (by decide) (by omega) (Nat.le_of_ble_eq_true rfl) rfl (Nat.le_refl _) (Nat.le_refl _) (c_Told_officeAt1 hn hR h1 hk hro) (m_go ?_)
  show AW _ _ _ _ _ _ _ _ [.ref o] _ _ _ _
  refine a_astore (lv' := [(5, .ref o), (0, .ref 0), (1, .int (nI k)), (2, .int sd), (3, .int y), (4, .int t)]) dS_drawn_8 (by decide) rfl ?_
  refine a_aload 0 dS_drawn_10 rfl ?_
  refine a_ifnull dS_drawn_12 ?_
  refine a_iload_n 4 dS_drawn_15 rfl rfl ?_
  refine a_if_lt (tgt := 25) dS_drawn_16 (by decide) (fun c16 => ?_) (fun c16 => ?_)
  · refine a_sipush (v := -1000) dS_drawn_25 (by decide) ?_
    exact a_iret dS_drawn_28 rfl ⟨rfl, KP.refl, (KF.refl hR)⟩
  · refine a_iload_n 4 dS_drawn_19 rfl rfl ?_
    refine a_bipushN (a := 60) dS_drawn_20 (by decide) ?_
    refine a_icmp_le (tgt := 29) dS_drawn_22 (by decide) (fun c22 => ?_) (fun c22 => ?_)
    · exfalso
      rcases hy with h | h
      · exact c16 h
      · exact absurd c22 (Int32.not_le.mpr h)
    · refine a_sipush (v := -1000) dS_drawn_25 (by decide) ?_
      exact a_iret dS_drawn_28 rfl ⟨rfl, KP.refl, (KF.refl hR)⟩
theorem q_S_drawn2 {S : Nat × (Nat → Int32)} {d n : Nat} {I : mI} {J : mJ} {R : mR} (hn : 122 ≤ n) (hR : m_fin R) {o nh nl : Nat} (ho : o ∈ m_offs) (hr : offR R o) (hon : o + 8 < n) (hh : I o 0 = nI nh) (hnh : nh ≤ 6) (hl : I o 1 = nI nl) (hnl : nl ≤ 10) (hW : WFc I o nl) (hH : WFh (I (o + 2)) nl) {k : Nat} (h1 : f_of (nI k) (I 3 0) = 1) (hk : k < 2) (hro : R 4 k = some o) (hnh1 : 1 ≤ nh) {sd t : Int32} {N : Nat} (hN : N ≤ 60) : AW S (d + 5) YS_drawn n n (qV I R (.int (osF nh (dnN nh nl (doC I o nh nl) N (sd, opI I o nl)).2 t))) 0 [(0, .ref 0), (1, .int (nI k)), (2, .int sd), (3, .int (nI N)), (4, .int t)] [] I J R n := by
  refine a_aload_n 0 dS_drawn_0 rfl rfl ?_
  refine a_geta (r := 1) dS_drawn_1 fl11_10 rfl ly_0 (by omega) (rf_0_0 hR) ?_
  refine a_iload_n 1 dS_drawn_4 rfl rfl ?_
  refine a_callV (Q' := m_res (some (.ref o)) I J R) (as := [.int (nI k)]) (st := []) dS_drawn_5 ml11_101 rfl (Nat.le_of_ble_eq_true rfl) ly_1 rfl rfl (by decide) (by omega) (Nat.le_of_ble_eq_true rfl) rfl (Nat.le_refl _) (Nat.le_refl _) (c_Told_officeAt1 hn hR h1 hk hro) (m_go ?_)
  show AW _ _ _ _ _ _ _ _ [.ref o] _ _ _ _
  refine a_astore (lv' := [(5, .ref o), (0, .ref 0), (1, .int (nI k)), (2, .int sd), (3, .int (nI N)), (4, .int t)]) dS_drawn_8 (by decide) rfl ?_
  refine a_aload 0 dS_drawn_10 rfl ?_
  refine a_ifnull dS_drawn_12 ?_
  refine a_iload_n 4 dS_drawn_15 rfl rfl ?_
  refine a_if_lt (tgt := 25) dS_drawn_16 (by decide) (fun c => False.elim (nI_pos (by omega) c)) (fun _ => ?_)
  refine a_iload_n 4 dS_drawn_19 rfl rfl ?_
  refine a_bipushN (a := 60) dS_drawn_20 (by decide) ?_
  refine a_icmp_leN (tgt := 29) dS_drawn_22 (by decide) (by omega) (by omega) (fun _ => ?_) (fun c => False.elim (by omega))
  refine a_aload_n 1 dS_drawn_29 rfl rfl ?_
  refine a_geta (r := 60) dS_drawn_30 fl11_30 rfl ly_0 (by omega) (rf_0_3 (hR)) ?_
  refine a_aload 0 dS_drawn_33 rfl ?_
  refine a_iload_n 3 dS_drawn_35 rfl rfl ?_
  refine a_iload_n 4 dS_drawn_36 rfl rfl ?_
  refine a_callV (Q' := fun v I' J' R' => v = none ∧ J' = J ∧ R' = m_up R 60 0 (some o) ∧ ∃ q : Int32 × cS × (Int32 × Int32), q.2.1 = (dnN nh nl (doC I o nh nl) N (sd, opI I o nl)).2 ∧ I' = (ccT (sdC I q.1) q.2.1 q.2.2)) (as := [.ref o, .int sd, .int (nI N)]) (st := []) dS_drawn_37 ml11_205 rfl (Nat.le_of_ble_eq_true rfl) ly_60 rfl rfl (by decide) (by omega) (Nat.le_of_ble_eq_true rfl) rfl (Nat.le_refl _) (Nat.le_refl _) (b_draw hn hR ho hr hon hh hnh hl hnl hW hH hnh1 hN (fun q hq => ⟨rfl, rfl, rfl, q, by rw [← hq, (itG_N N).2, dnN_it], rfl⟩)) ?_
  intro v9 I9 J9 R9 ⟨ha9, hb9, hc9, q, hq, hd9⟩
  subst ha9
  rw [hb9, hc9, hd9]
  show AW _ _ _ _ _ _ _ _ [] _ _ _ _
  refine a_aload_n 1 dS_drawn_40 rfl rfl ?_
  refine a_geta (r := 60) dS_drawn_41 fl11_30 rfl ly_0 (by omega) (rf_0_3 (fin_60 hR)) ?_
  refine a_iload 5 dS_drawn_44 rfl ?_
  refine a_callV (Q' := m_res (some (.int (osF nh q.2.1 t))) (ccT (sdC I q.1) q.2.1 q.2.2) J (m_up R 60 0 (some o))) (as := [.int t]) (st := []) dS_drawn_46 ml11_134 rfl (Nat.le_of_ble_eq_true rfl) ly_60 rfl rfl (by decide) (by omega) (Nat.le_of_ble_eq_true rfl) rfl (Nat.le_refl _) (Nat.le_refl _) (by have h := c_answer (S := S) (d := d + 2) (n := n) (J := J) (x := t) (I := sdC I q.1) (s := q.2.1) (p := q.2.2) hn (fin_60 hR) ho (offR_60 ho hr) hon m_up_at (by rw [sdC_o0 ho]; exact hh) hnh (by rw [sdC_o0 ho]; exact hl) hnl; exact h) (m_go ?_)
  show AW _ _ _ _ _ _ _ _ [.int (osF nh q.2.1 t)] _ _ _ _
  exact a_iret dS_drawn_49 rfl ⟨(by rw [hq]), (KP.c60 (KP.up KP.refl (by omega))), (KF.up60 (KF.refl hR))⟩
