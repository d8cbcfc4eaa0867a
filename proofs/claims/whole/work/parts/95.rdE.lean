def plV (k : Nat) (f : Int32) : Int32 := if k = 0 then f else if k = 1 then -f else if k = 2 then f / nI 2 else 0
theorem c_plain0 {S : Nat × (Nat → Int32)} {d n : Nat} {I : mI} {J : mJ} {R : mR} {f : Int32}  : RUN S d YOffice_plainOf [.int (nI 0), .int f] I J R n (some (.int (plV 0 f))) I J R n := by
  show AW S _ YOffice_plainOf n n _ 0 [(0, .int (nI 0)), (1, .int f)] [] I J R n
  refine a_iload_n 0 dOffice_plainOf_0 rfl rfl ?_
  refine a_tab (c := 0) (off := 27) (tgt := 28) dOffice_plainOf_1 rfl (by decide) (by decide) (by decide) (by decide) ?_
  refine a_iload_n 1 dOffice_plainOf_28 rfl rfl ?_
  exact a_iret dOffice_plainOf_29 rfl ⟨rfl, rfl, rfl, rfl⟩
theorem c_plain1 {S : Nat × (Nat → Int32)} {d n : Nat} {I : mI} {J : mJ} {R : mR} {f : Int32}  : RUN S d YOffice_plainOf [.int (nI 1), .int f] I J R n (some (.int (plV 1 f))) I J R n := by
  show AW S _ YOffice_plainOf n n _ 0 [(0, .int (nI 1)), (1, .int f)] [] I J R n
  refine a_iload_n 0 dOffice_plainOf_0 rfl rfl ?_
  refine a_tab (c := 1) (off := 29) (tgt := 30) dOffice_plainOf_1 rfl (by decide) (by decide) (by decide) (by decide) ?_
  refine a_iload_n 1 dOffice_plainOf_30 rfl rfl ?_
  refine a_ineg dOffice_plainOf_31 ?_
  exact a_iret dOffice_plainOf_32 rfl ⟨rfl, rfl, rfl, rfl⟩
theorem c_plain2 {S : Nat × (Nat → Int32)} {d n : Nat} {I : mI} {J : mJ} {R : mR} {f : Int32}  : RUN S d YOffice_plainOf [.int (nI 2), .int f] I J R n (some (.int (plV 2 f))) I J R n := by
  show AW S _ YOffice_plainOf n n _ 0 [(0, .int (nI 2)), (1, .int f)] [] I J R n
  refine a_iload_n 0 dOffice_plainOf_0 rfl rfl ?_
  refine a_tab (c := 2) (off := 32) (tgt := 33) dOffice_plainOf_1 rfl (by decide) (by decide) (by decide) (by decide) ?_
  refine a_iload_n 1 dOffice_plainOf_33 rfl rfl ?_
  refine a_iconstN (a := 2) dOffice_plainOf_34 (by decide) ?_
  refine a_idiv dOffice_plainOf_35 (by decide) ?_
  exact a_iret dOffice_plainOf_36 rfl ⟨rfl, rfl, rfl, rfl⟩
theorem c_plain3 {S : Nat × (Nat → Int32)} {d n : Nat} {I : mI} {J : mJ} {R : mR} {f : Int32}  : RUN S d YOffice_plainOf [.int (nI 3), .int f] I J R n (some (.int (plV 3 f))) I J R n := by
  show AW S _ YOffice_plainOf n n _ 0 [(0, .int (nI 3)), (1, .int f)] [] I J R n
  refine a_iload_n 0 dOffice_plainOf_0 rfl rfl ?_
  refine a_tableOut (tgt := 37) dOffice_plainOf_1 (Or.inr (by decide)) (by decide) ?_
  refine a_iconstN (a := 0) dOffice_plainOf_37 (by decide) ?_
  exact a_iret dOffice_plainOf_38 rfl ⟨rfl, rfl, rfl, rfl⟩
theorem c_plain {S : Nat × (Nat → Int32)} {d n : Nat} {I : mI} {J : mJ} {R : mR} {k : Nat} (hk : k < 4) {f : Int32} : RUN S d YOffice_plainOf [.int (nI k), .int f] I J R n (some (.int (plV k f))) I J R n := by
  have : k = 0 ∨ k = 1 ∨ k = 2 ∨ k = 3 := by omega
  rcases this with rfl | rfl | rfl | rfl
  · exact c_plain0
  · exact c_plain1
  · exact c_plain2
  · exact c_plain3
abbrev adI (I : mI) (l : Nat) (h k : Int32) (f pl : Int32) : mI := m_up (m_up (m_up (m_up (m_up I 43 l h) 44 l k) 45 l f) 46 l pl) 41 1 (nI (l + 1))
abbrev waI (I : mI) (c : Nat) (a l h : Int32) : mI := m_up (m_up (m_up (m_up I 51 c a) 52 c l) 53 c h) 50 0 (nI (c + 1))
abbrev gaI (I : mI) (c : Nat) (h m : Int32) : mI := m_up (m_up (m_up I 55 c h) 56 c m) 54 0 (nI (c + 1))
theorem rM_up {I : mI} {F K N P : Nat → Int32} {a k : Nat} {x : Int32} (h : a ≠ 40 ∧ a ≠ 57 ∧ a ≠ 58 ∧ a ≠ 59) : m_up (rM I F K N P) a k x = rM (m_up I a k x) F K N P := by
  unfold rM
  rw [m_up_comm h.2.2.2, m_up_comm h.2.2.1, m_up_comm h.2.1, m_up_comm h.1]
theorem rM_ad {I : mI} {F K N P : Nat → Int32} {l : Nat} {h k f pl : Int32} : adI (rM I F K N P) l h k f pl = rM (adI I l h k f pl) F K N P := by
  unfold adI
  rw [rM_up (by decide), rM_up (by decide), rM_up (by decide), rM_up (by decide), rM_up (by decide)]
theorem rM_wa {I : mI} {F K N P : Nat → Int32} {c : Nat} {a l h : Int32} : waI (rM I F K N P) c a l h = rM (waI I c a l h) F K N P := by
  unfold waI
  rw [rM_up (by decide), rM_up (by decide), rM_up (by decide), rM_up (by decide)]
theorem rM_ga {I : mI} {F K N P : Nat → Int32} {c : Nat} {h m : Int32} : gaI (rM I F K N P) c h m = rM (gaI I c h m) F K N P := by
  unfold gaI
  rw [rM_up (by decide), rM_up (by decide), rM_up (by decide)]
theorem c_addLetter {S : Nat × (Nat → Int32)} {d n : Nat} {I : mI} {J : mJ} {R : mR} (hn : 122 ≤ n) (hR : m_fin R) {l k : Nat} {h f : Int32} (hL : I 41 1 = nI l) (hl10 : l < 10) (hk4 : k < 4)  : RUN S (d + 1) YOffice_addLetter [.ref 41, .int h, .int (nI k), .int f] I J R n none (adI I l h (nI k) f (plV k f)) J R n := by
  show AW S _ YOffice_addLetter n n _ 0 [(0, .ref 41), (1, .int h), (2, .int (nI k)), (3, .int f)] [] I J R n
  refine a_aload_n 0 dOffice_addLetter_0 rfl rfl ?_
  refine a_geti dOffice_addLetter_1 fl4_40 rfl ly_41 (by omega) ?_
  rw [show I 41 1 = (nI l) from hL]
  refine a_bipushN (a := 10) dOffice_addLetter_4 (by decide) ?_
  refine a_icmp_geN (tgt := 63) dOffice_addLetter_6 (by decide) (by omega) (by omega) (fun c => False.elim (by omega)) (fun _ => ?_)
  refine a_aload_n 0 dOffice_addLetter_9 rfl rfl ?_
  refine a_geta (r := 43) dOffice_addLetter_10 fl4_15 rfl ly_41 (by omega) (rf_41_4 hR) ?_
  refine a_aload_n 0 dOffice_addLetter_13 rfl rfl ?_
  refine a_geti dOffice_addLetter_14 fl4_40 rfl ly_41 (by omega) ?_
  rw [show I 41 1 = (nI l) from hL]
  refine a_iload_n 1 dOffice_addLetter_17 rfl rfl ?_
  refine a_iastN (a := l) dOffice_addLetter_18 ly_43 (by omega) (by omega) (by decide) ?_
  refine a_aload_n 0 dOffice_addLetter_19 rfl rfl ?_
  refine a_geta (r := 44) dOffice_addLetter_20 fl4_18 rfl ly_41 (by omega) (rf_41_5 hR) ?_
  refine a_aload_n 0 dOffice_addLetter_23 rfl rfl ?_
  refine a_geti dOffice_addLetter_24 fl4_40 rfl ly_41 (by omega) ?_
  rw [show (m_up I 43 l h) 41 1 = (nI l) from hL]
  refine a_iload_n 2 dOffice_addLetter_27 rfl rfl ?_
  refine a_iastN (a := l) dOffice_addLetter_28 ly_44 (by omega) (by omega) (by decide) ?_
  refine a_aload_n 0 dOffice_addLetter_29 rfl rfl ?_
  refine a_geta (r := 45) dOffice_addLetter_30 fl4_21 rfl ly_41 (by omega) (rf_41_6 hR) ?_
  refine a_aload_n 0 dOffice_addLetter_33 rfl rfl ?_
  refine a_geti dOffice_addLetter_34 fl4_40 rfl ly_41 (by omega) ?_
  rw [show (m_up (m_up I 43 l h) 44 l (nI k)) 41 1 = (nI l) from hL]
  refine a_iload_n 3 dOffice_addLetter_37 rfl rfl ?_
  refine a_iastN (a := l) dOffice_addLetter_38 ly_45 (by omega) (by omega) (by decide) ?_
  refine a_aload_n 0 dOffice_addLetter_39 rfl rfl ?_
  refine a_geta (r := 46) dOffice_addLetter_40 fl4_24 rfl ly_41 (by omega) (rf_41_7 hR) ?_
  refine a_aload_n 0 dOffice_addLetter_43 rfl rfl ?_
  refine a_geti dOffice_addLetter_44 fl4_40 rfl ly_41 (by omega) ?_
  rw [show (m_up (m_up (m_up I 43 l h) 44 l (nI k)) 45 l f) 41 1 = (nI l) from hL]
  refine a_iload_n 2 dOffice_addLetter_47 rfl rfl ?_
  refine a_iload_n 3 dOffice_addLetter_48 rfl rfl ?_
  refine a_callS (Q' := m_res (some (.int (plV k f))) (m_up (m_up (m_up I 43 l h) 44 l (nI k)) 45 l f) J R) (as := [.int (nI k), .int f]) (st := [.int (nI l), .ref 46]) dOffice_addLetter_49 ml4_73 rfl (Nat.le_of_ble_eq_true rfl) (Nat.le_of_ble_eq_true rfl) rfl (Nat.le_refl _) (Nat.le_refl _) (c_plain hk4) (m_go ?_)
  show AW _ _ _ _ _ _ _ _ [.int (plV k f), .int (nI l), .ref 46] _ _ _ _
  refine a_iastN (a := l) dOffice_addLetter_52 ly_46 (by omega) (by omega) (by decide) ?_
  refine a_aload_n 0 dOffice_addLetter_53 rfl rfl ?_
  refine a_dup dOffice_addLetter_54 rfl ?_
  refine a_geti dOffice_addLetter_55 fl4_40 rfl ly_41 (by omega) ?_
  rw [show (m_up (m_up (m_up (m_up I 43 l h) 44 l (nI k)) 45 l f) 46 l (plV k f)) 41 1 = (nI l) from hL]
  refine a_iconstN (a := 1) dOffice_addLetter_58 (by decide) ?_
  refine a_iaddN (a := l) (b := 1) dOffice_addLetter_59 ?_
  refine a_puti dOffice_addLetter_60 fl4_40 rfl ly_41 (by omega) ?_
  exact a_vret dOffice_addLetter_63 rfl ⟨rfl, rfl, rfl, rfl⟩
theorem c_weekAdd {S : Nat × (Nat → Int32)} {d n : Nat} {I : mI} {J : mJ} {R : mR} (hn : 122 ≤ n) (hR : m_fin R) {c : Nat} {a l h : Int32} (hL : I 50 0 = nI c) (hc40 : c < 40)  : RUN S d YWeek_add [.ref 50, .int a, .int l, .int h] I J R n none (waI I c a l h) J R n := by
  show AW S _ YWeek_add n n _ 0 [(0, .ref 50), (1, .int a), (2, .int l), (3, .int h)] [] I J R n
  refine a_aload_n 0 dWeek_add_0 rfl rfl ?_
  refine a_geti dWeek_add_1 fl10_21 rfl ly_50 (by omega) ?_
  rw [show I 50 0 = (nI c) from hL]
  refine a_bipushN (a := 40) dWeek_add_4 (by decide) ?_
  refine a_icmp_geN (tgt := 49) dWeek_add_6 (by decide) (by omega) (by omega) (fun c => False.elim (by omega)) (fun _ => ?_)
  refine a_aload_n 0 dWeek_add_9 rfl rfl ?_
  refine a_geta (r := 51) dWeek_add_10 fl10_9 rfl ly_50 (by omega) (rf_50_1 hR) ?_
  refine a_aload_n 0 dWeek_add_13 rfl rfl ?_
  refine a_geti dWeek_add_14 fl10_21 rfl ly_50 (by omega) ?_
  rw [show I 50 0 = (nI c) from hL]
  refine a_iload_n 1 dWeek_add_17 rfl rfl ?_
  refine a_iastN (a := c) dWeek_add_18 ly_51 (by omega) (by omega) (by decide) ?_
  refine a_aload_n 0 dWeek_add_19 rfl rfl ?_
  refine a_geta (r := 52) dWeek_add_20 fl10_15 rfl ly_50 (by omega) (rf_50_2 hR) ?_
  refine a_aload_n 0 dWeek_add_23 rfl rfl ?_
  refine a_geti dWeek_add_24 fl10_21 rfl ly_50 (by omega) ?_
  rw [show (m_up I 51 c a) 50 0 = (nI c) from hL]
  refine a_iload_n 2 dWeek_add_27 rfl rfl ?_
  refine a_iastN (a := c) dWeek_add_28 ly_52 (by omega) (by omega) (by decide) ?_
  refine a_aload_n 0 dWeek_add_29 rfl rfl ?_
  refine a_geta (r := 53) dWeek_add_30 fl10_18 rfl ly_50 (by omega) (rf_50_3 hR) ?_
  refine a_aload_n 0 dWeek_add_33 rfl rfl ?_
  refine a_geti dWeek_add_34 fl10_21 rfl ly_50 (by omega) ?_
  rw [show (m_up (m_up I 51 c a) 52 c l) 50 0 = (nI c) from hL]
  refine a_iload_n 3 dWeek_add_37 rfl rfl ?_
  refine a_iastN (a := c) dWeek_add_38 ly_53 (by omega) (by omega) (by decide) ?_
  refine a_aload_n 0 dWeek_add_39 rfl rfl ?_
  refine a_dup dWeek_add_40 rfl ?_
  refine a_geti dWeek_add_41 fl10_21 rfl ly_50 (by omega) ?_
  rw [show (m_up (m_up (m_up I 51 c a) 52 c l) 53 c h) 50 0 = (nI c) from hL]
  refine a_iconstN (a := 1) dWeek_add_44 (by decide) ?_
  refine a_iaddN (a := c) (b := 1) dWeek_add_45 ?_
  refine a_puti dWeek_add_46 fl10_21 rfl ly_50 (by omega) ?_
  exact a_vret dWeek_add_49 rfl ⟨rfl, rfl, rfl, rfl⟩
theorem c_logAdd {S : Nat × (Nat → Int32)} {d n : Nat} {I : mI} {J : mJ} {R : mR} (hn : 122 ≤ n) (hR : m_fin R) {c : Nat} {h m : Int32} (hL : I 54 0 = nI c) (hc8 : c < 8)  : RUN S d YLog_add [.ref 54, .int h, .int m] I J R n none (gaI I c h m) J R n := by
  show AW S _ YLog_add n n _ 0 [(0, .ref 54), (1, .int h), (2, .int m)] [] I J R n
  refine a_aload_n 0 dLog_add_0 rfl rfl ?_
  refine a_geti dLog_add_1 fl3_18 rfl ly_54 (by omega) ?_
  rw [show I 54 0 = (nI c) from hL]
  refine a_bipushN (a := 8) dLog_add_4 (by decide) ?_
  refine a_icmp_geN (tgt := 39) dLog_add_6 (by decide) (by omega) (by omega) (fun c => False.elim (by omega)) (fun _ => ?_)
  refine a_aload_n 0 dLog_add_9 rfl rfl ?_
  refine a_geta (r := 55) dLog_add_10 fl3_9 rfl ly_54 (by omega) (rf_54_1 hR) ?_
  refine a_aload_n 0 dLog_add_13 rfl rfl ?_
  refine a_geti dLog_add_14 fl3_18 rfl ly_54 (by omega) ?_
  rw [show I 54 0 = (nI c) from hL]
  refine a_iload_n 1 dLog_add_17 rfl rfl ?_
  refine a_iastN (a := c) dLog_add_18 ly_55 (by omega) (by omega) (by decide) ?_
  refine a_aload_n 0 dLog_add_19 rfl rfl ?_
  refine a_geta (r := 56) dLog_add_20 fl3_15 rfl ly_54 (by omega) (rf_54_2 hR) ?_
  refine a_aload_n 0 dLog_add_23 rfl rfl ?_
  refine a_geti dLog_add_24 fl3_18 rfl ly_54 (by omega) ?_
  rw [show (m_up I 55 c h) 54 0 = (nI c) from hL]
  refine a_iload_n 2 dLog_add_27 rfl rfl ?_
  refine a_iastN (a := c) dLog_add_28 ly_56 (by omega) (by omega) (by decide) ?_
  refine a_aload_n 0 dLog_add_29 rfl rfl ?_
  refine a_dup dLog_add_30 rfl ?_
  refine a_geti dLog_add_31 fl3_18 rfl ly_54 (by omega) ?_
  rw [show (m_up (m_up I 55 c h) 56 c m) 54 0 = (nI c) from hL]
  refine a_iconstN (a := 1) dLog_add_34 (by decide) ?_
  refine a_iaddN (a := c) (b := 1) dLog_add_35 ?_
  refine a_puti dLog_add_36 fl3_18 rfl ly_54 (by omega) ?_
  exact a_vret dLog_add_39 rfl ⟨rfl, rfl, rfl, rfl⟩
def tlwI (I : mI) (law : Nat) (x : Int32) : mI := if I 49 law = -1 then m_up (m_up I 41 2 (I 41 2 + nI 1)) 49 law x else m_up I 49 law x
theorem c_tellLaw {S : Nat × (Nat → Int32)} {d n : Nat} {I : mI} {J : mJ} {R : mR} (hn : 122 ≤ n) (hR : m_fin R) {K N P F : Nat → Int32} {k0 k1 : Nat} (hk0 : K 0 = nI k0) (hk1 : K 1 = nI k1) (hk04 : k0 < 4) (hk14 : k1 < 4)  : RUN S (d + 1) YReader_tellLaw [.ref 40] (m_row (m_row (m_row (m_row I 40 F) 57 K) 58 N) 59 P) J R n none (rM (tlwI I (4 * k0 + k1) (N 0)) F K N P) J R n := by
  show AW S _ YReader_tellLaw n n _ 0 [(0, .ref 40)] [] (m_row (m_row (m_row (m_row I 40 F) 57 K) 58 N) 59 P) J R n
  refine a_aload_n 0 dReader_tellLaw_0 rfl rfl ?_
  refine a_callV (Q' := m_res (some (.int (nI (4 * k0 + k1)))) (m_row (m_row (m_row (m_row I 40 F) 57 K) 58 N) 59 P) J R) (as := []) (st := []) dReader_tellLaw_1 ml7_221 rfl (Nat.le_of_ble_eq_true rfl) ly_40 rfl rfl (by decide) (by omega) (Nat.le_of_ble_eq_true rfl) rfl (Nat.le_refl _) (Nat.le_refl _) (c_lawAtHand hn hR hk0 hk1 hk04 hk14) (m_go ?_)
  show AW _ _ _ _ _ _ _ _ [.int (nI (4 * k0 + k1))] _ _ _ _
  refine a_istore_n (lv' := [(1, .int (nI (4 * k0 + k1))), (0, .ref 40)]) dReader_tellLaw_4 rfl (by decide) rfl ?_
  refine a_aload_n 1 dReader_tellLaw_5 rfl rfl ?_
  refine a_geta (r := 41) dReader_tellLaw_6 fl7_12 rfl ly_40 (by omega) (rf_40_0 hR) ?_
  refine a_geta (r := 49) dReader_tellLaw_9 fl7_218 rfl ly_41 (by omega) (rf_41_10 hR) ?_
  refine a_iload_n 0 dReader_tellLaw_12 rfl rfl ?_
  refine a_ialdN (a := (4 * k0 + k1)) dReader_tellLaw_13 ly_49 (by omega) (by omega) (by decide) ?_
  rw [show (m_row (m_row (m_row (m_row I 40 F) 57 K) 58 N) 59 P) 49 (4 * k0 + k1) = I 49 (4 * k0 + k1) from rfl]
  refine a_iconst (v := -1) dReader_tellLaw_14 (by decide) ?_
  refine a_icmp_ne (tgt := 31) dReader_tellLaw_15 (by decide) (fun c15 => ?_) (fun c15 => ?_)
  · refine a_aload_n 1 dReader_tellLaw_31 rfl rfl ?_
    refine a_geta (r := 41) dReader_tellLaw_32 fl7_12 rfl ly_40 (by omega) (rf_40_0 hR) ?_
    refine a_geta (r := 49) dReader_tellLaw_35 fl7_218 rfl ly_41 (by omega) (rf_41_10 hR) ?_
    refine a_iload_n 0 dReader_tellLaw_38 rfl rfl ?_
    refine a_aload_n 1 dReader_tellLaw_39 rfl rfl ?_
    refine a_geta (r := 58) dReader_tellLaw_40 fl7_36 rfl ly_40 (by omega) (rf_40_13 hR) ?_
    refine a_iconstN (a := 0) dReader_tellLaw_43 (by decide) ?_
    refine a_ialdN (a := 0) dReader_tellLaw_44 ly_58 (by omega) (by omega) (by decide) ?_
    rw [show (m_row (m_row (m_row (m_row I 40 F) 57 K) 58 N) 59 P) 58 0 = N 0 from rfl]
    refine a_iastN (a := (4 * k0 + k1)) dReader_tellLaw_45 ly_49 (by omega) (by omega) (by decide) ?_
    rw [show m_up (m_row (m_row (m_row (m_row I 40 F) 57 K) 58 N) 59 P) 49 (4 * k0 + k1) (N 0) = (m_row (m_row (m_row (m_row (m_up I 49 (4 * k0 + k1) (N 0)) 40 F) 57 K) 58 N) 59 P) from (by rw [m_up_comm (by decide), m_up_comm (by decide), m_up_comm (by decide), m_up_comm (by decide)])]
    exact a_vret dReader_tellLaw_46 rfl ⟨rfl, by unfold tlwI; rw [if_neg c15], rfl, rfl⟩
  · refine a_aload_n 1 dReader_tellLaw_18 rfl rfl ?_
    refine a_geta (r := 41) dReader_tellLaw_19 fl7_12 rfl ly_40 (by omega) (rf_40_0 hR) ?_
    refine a_dup dReader_tellLaw_22 rfl ?_
    refine a_geti dReader_tellLaw_23 fl7_215 rfl ly_41 (by omega) ?_
    rw [show (m_row (m_row (m_row (m_row I 40 F) 57 K) 58 N) 59 P) 41 2 = I 41 2 from rfl]
    refine a_iconstN (a := 1) dReader_tellLaw_26 (by decide) ?_
    refine a_iadd dReader_tellLaw_27 ?_
    refine a_puti dReader_tellLaw_28 fl7_215 rfl ly_41 (by omega) ?_
    rw [show m_up (m_row (m_row (m_row (m_row I 40 F) 57 K) 58 N) 59 P) 41 2 ((I 41 2) + (nI 1)) = (m_row (m_row (m_row (m_row (m_up I 41 2 ((I 41 2) + (nI 1))) 40 F) 57 K) 58 N) 59 P) from (by rw [m_up_comm (by decide), m_up_comm (by decide), m_up_comm (by decide), m_up_comm (by decide)])]
    refine a_aload_n 1 dReader_tellLaw_31 rfl rfl ?_
    refine a_geta (r := 41) dReader_tellLaw_32 fl7_12 rfl ly_40 (by omega) (rf_40_0 hR) ?_
    refine a_geta (r := 49) dReader_tellLaw_35 fl7_218 rfl ly_41 (by omega) (rf_41_10 hR) ?_
    refine a_iload_n 0 dReader_tellLaw_38 rfl rfl ?_
    refine a_aload_n 1 dReader_tellLaw_39 rfl rfl ?_
    refine a_geta (r := 58) dReader_tellLaw_40 fl7_36 rfl ly_40 (by omega) (rf_40_13 hR) ?_
    refine a_iconstN (a := 0) dReader_tellLaw_43 (by decide) ?_
    refine a_ialdN (a := 0) dReader_tellLaw_44 ly_58 (by omega) (by omega) (by decide) ?_
    rw [show (m_row (m_row (m_row (m_row (m_up I 41 2 ((I 41 2) + (nI 1))) 40 F) 57 K) 58 N) 59 P) 58 0 = N 0 from rfl]
    refine a_iastN (a := (4 * k0 + k1)) dReader_tellLaw_45 ly_49 (by omega) (by omega) (by decide) ?_
    rw [show m_up (m_row (m_row (m_row (m_row (m_up I 41 2 ((I 41 2) + (nI 1))) 40 F) 57 K) 58 N) 59 P) 49 (4 * k0 + k1) (N 0) = (m_row (m_row (m_row (m_row (m_up (m_up I 41 2 ((I 41 2) + (nI 1))) 49 (4 * k0 + k1) (N 0)) 40 F) 57 K) 58 N) 59 P) from (by rw [m_up_comm (by decide), m_up_comm (by decide), m_up_comm (by decide), m_up_comm (by decide)])]
    exact a_vret dReader_tellLaw_46 rfl ⟨rfl, by unfold tlwI; rw [if_pos c15], rfl, rfl⟩
theorem c_tell0 {S : Nat × (Nat → Int32)} {d n : Nat} {I : mI} {J : mJ} {R : mR} (hn : 122 ≤ n) (hR : m_fin R) {K N P F : Nat → Int32}  : RUN S (d + 2) YReader_tell [.ref 40, .int (nI 0)] (m_row (m_row (m_row (m_row I 40 F) 57 K) 58 N) 59 P) J R n none (rM (m_up I 41 0 (N 0)) F K N P) J R n := by
  show AW S _ YReader_tell n n _ 0 [(0, .ref 40), (1, .int (nI 0))] [] (m_row (m_row (m_row (m_row I 40 F) 57 K) 58 N) 59 P) J R n
  refine a_iload_n 1 dReader_tell_0 rfl rfl ?_
  refine a_tab (c := 0) (off := 51) (tgt := 52) dReader_tell_1 rfl (by decide) (by decide) (by decide) (by decide) ?_
  refine a_aload_n 0 dReader_tell_52 rfl rfl ?_
  refine a_geta (r := 41) dReader_tell_53 fl7_12 rfl ly_40 (by omega) (rf_40_0 hR) ?_
  refine a_aload_n 0 dReader_tell_56 rfl rfl ?_
  refine a_geta (r := 58) dReader_tell_57 fl7_36 rfl ly_40 (by omega) (rf_40_13 hR) ?_
  refine a_iconstN (a := 0) dReader_tell_60 (by decide) ?_
  refine a_ialdN (a := 0) dReader_tell_61 ly_58 (by omega) (by omega) (by decide) ?_
  rw [show (m_row (m_row (m_row (m_row I 40 F) 57 K) 58 N) 59 P) 58 0 = N 0 from rfl]
  refine a_puti dReader_tell_62 fl7_108 rfl ly_41 (by omega) ?_
  rw [show m_up (m_row (m_row (m_row (m_row I 40 F) 57 K) 58 N) 59 P) 41 0 (N 0) = (m_row (m_row (m_row (m_row (m_up I 41 0 (N 0)) 40 F) 57 K) 58 N) 59 P) from (by rw [m_up_comm (by decide), m_up_comm (by decide), m_up_comm (by decide), m_up_comm (by decide)])]
  refine a_goto (tgt := 320) dReader_tell_65 (by decide) ?_
  exact a_vret dReader_tell_320 rfl ⟨rfl, rfl, rfl, rfl⟩
theorem c_tell1 {S : Nat × (Nat → Int32)} {d n : Nat} {I : mI} {J : mJ} {R : mR} (hn : 122 ≤ n) (hR : m_fin R) {K N P F : Nat → Int32} {v0 : Nat} (hv0 : N 0 = nI v0) (h06 : v0 < 6)  : RUN S (d + 2) YReader_tell [.ref 40, .int (nI 1)] (m_row (m_row (m_row (m_row I 40 F) 57 K) 58 N) 59 P) J R n none (rM (m_up I 42 v0 (N 1)) (va_up F 16 (if F 16 < nI v0 then nI v0 else F 16)) K N P) J R n := by
  show AW S _ YReader_tell n n _ 0 [(0, .ref 40), (1, .int (nI 1))] [] (m_row (m_row (m_row (m_row I 40 F) 57 K) 58 N) 59 P) J R n
  refine a_iload_n 1 dReader_tell_0 rfl rfl ?_
  refine a_tab (c := 1) (off := 67) (tgt := 68) dReader_tell_1 rfl (by decide) (by decide) (by decide) (by decide) ?_
  refine a_aload_n 0 dReader_tell_68 rfl rfl ?_
  refine a_geta (r := 41) dReader_tell_69 fl7_12 rfl ly_40 (by omega) (rf_40_0 hR) ?_
  refine a_geta (r := 42) dReader_tell_72 fl7_224 rfl ly_41 (by omega) (rf_41_3 hR) ?_
  refine a_aload_n 0 dReader_tell_75 rfl rfl ?_
  refine a_geta (r := 58) dReader_tell_76 fl7_36 rfl ly_40 (by omega) (rf_40_13 hR) ?_
  refine a_iconstN (a := 0) dReader_tell_79 (by decide) ?_
  refine a_ialdN (a := 0) dReader_tell_80 ly_58 (by omega) (by omega) (by decide) ?_
  rw [show (m_row (m_row (m_row (m_row I 40 F) 57 K) 58 N) 59 P) 58 0 = (nI v0) from hv0]
  refine a_aload_n 0 dReader_tell_81 rfl rfl ?_
  refine a_geta (r := 58) dReader_tell_82 fl7_36 rfl ly_40 (by omega) (rf_40_13 hR) ?_
  refine a_iconstN (a := 1) dReader_tell_85 (by decide) ?_
  refine a_ialdN (a := 1) dReader_tell_86 ly_58 (by omega) (by omega) (by decide) ?_
  rw [show (m_row (m_row (m_row (m_row I 40 F) 57 K) 58 N) 59 P) 58 1 = N 1 from rfl]
  refine a_iastN (a := v0) dReader_tell_87 ly_42 (by omega) (by omega) (by decide) ?_
  rw [show m_up (m_row (m_row (m_row (m_row I 40 F) 57 K) 58 N) 59 P) 42 v0 (N 1) = (m_row (m_row (m_row (m_row (m_up I 42 v0 (N 1)) 40 F) 57 K) 58 N) 59 P) from (by rw [m_up_comm (by decide), m_up_comm (by decide), m_up_comm (by decide), m_up_comm (by decide)])]
  refine a_aload_n 0 dReader_tell_88 rfl rfl ?_
  refine a_aload_n 0 dReader_tell_89 rfl rfl ?_
  refine a_geti dReader_tell_90 fl7_93 rfl ly_40 (by omega) ?_
  rw [show (m_row (m_row (m_row (m_row (m_up I 42 v0 (N 1)) 40 F) 57 K) 58 N) 59 P) 40 16 = F 16 from rfl]
  refine a_aload_n 0 dReader_tell_93 rfl rfl ?_
  refine a_geta (r := 58) dReader_tell_94 fl7_36 rfl ly_40 (by omega) (rf_40_13 hR) ?_
  refine a_iconstN (a := 0) dReader_tell_97 (by decide) ?_
  refine a_ialdN (a := 0) dReader_tell_98 ly_58 (by omega) (by omega) (by decide) ?_
  rw [show (m_row (m_row (m_row (m_row (m_up I 42 v0 (N 1)) 40 F) 57 K) 58 N) 59 P) 58 0 = (nI v0) from hv0]
  refine a_max dReader_tell_99 mm7_87 (Nat.le_of_ble_eq_true rfl) (Nat.le_refl _) ?_
  refine a_puti dReader_tell_102 fl7_93 rfl ly_40 (by omega) ?_
  rw [show m_up (m_row (m_row (m_row (m_row (m_up I 42 v0 (N 1)) 40 F) 57 K) 58 N) 59 P) 40 16 (if (F 16) < (nI v0) then (nI v0) else (F 16)) = (m_row (m_row (m_row (m_row (m_up I 42 v0 (N 1)) 40 (va_up F 16 (if (F 16) < (nI v0) then (nI v0) else (F 16)))) 57 K) 58 N) 59 P) from (by rw [m_up_comm (by decide), m_up_comm (by decide), m_up_comm (by decide), m_up_r])]
  refine a_goto (tgt := 320) dReader_tell_105 (by decide) ?_
  exact a_vret dReader_tell_320 rfl ⟨rfl, rfl, rfl, rfl⟩
theorem c_tell2 {S : Nat × (Nat → Int32)} {d n : Nat} {I : mI} {J : mJ} {R : mR} (hn : 122 ≤ n) (hR : m_fin R) {K N P F : Nat → Int32} {l k0 : Nat} (hk0 : K 0 = nI k0) (hk04 : k0 < 4) (hL : I 41 1 = nI l) (hl10 : l < 10)  : RUN S (d + 2) YReader_tell [.ref 40, .int (nI 2)] (m_row (m_row (m_row (m_row I 40 F) 57 K) 58 N) 59 P) J R n none (rM (adI I l (N 0) (nI k0) (N 1) (plV k0 (N 1))) (va_up F 16 (if F 16 < N 0 then N 0 else F 16)) K N P) J R n := by
  show AW S _ YReader_tell n n _ 0 [(0, .ref 40), (1, .int (nI 2))] [] (m_row (m_row (m_row (m_row I 40 F) 57 K) 58 N) 59 P) J R n
  refine a_iload_n 1 dReader_tell_0 rfl rfl ?_
  refine a_tab (c := 2) (off := 107) (tgt := 108) dReader_tell_1 rfl (by decide) (by decide) (by decide) (by decide) ?_
  refine a_aload_n 0 dReader_tell_108 rfl rfl ?_
  refine a_geta (r := 41) dReader_tell_109 fl7_12 rfl ly_40 (by omega) (rf_40_0 hR) ?_
  refine a_aload_n 0 dReader_tell_112 rfl rfl ?_
  refine a_geta (r := 58) dReader_tell_113 fl7_36 rfl ly_40 (by omega) (rf_40_13 hR) ?_
  refine a_iconstN (a := 0) dReader_tell_116 (by decide) ?_
  refine a_ialdN (a := 0) dReader_tell_117 ly_58 (by omega) (by omega) (by decide) ?_
  rw [show (m_row (m_row (m_row (m_row I 40 F) 57 K) 58 N) 59 P) 58 0 = N 0 from rfl]
  refine a_aload_n 0 dReader_tell_118 rfl rfl ?_
  refine a_geta (r := 57) dReader_tell_119 fl7_32 rfl ly_40 (by omega) (rf_40_11 hR) ?_
  refine a_iconstN (a := 0) dReader_tell_122 (by decide) ?_
  refine a_ialdN (a := 0) dReader_tell_123 ly_57 (by omega) (by omega) (by decide) ?_
  rw [show (m_row (m_row (m_row (m_row I 40 F) 57 K) 58 N) 59 P) 57 0 = (nI k0) from hk0]
  refine a_aload_n 0 dReader_tell_124 rfl rfl ?_
  refine a_geta (r := 58) dReader_tell_125 fl7_36 rfl ly_40 (by omega) (rf_40_13 hR) ?_
  refine a_iconstN (a := 1) dReader_tell_128 (by decide) ?_
  refine a_ialdN (a := 1) dReader_tell_129 ly_58 (by omega) (by omega) (by decide) ?_
  rw [show (m_row (m_row (m_row (m_row I 40 F) 57 K) 58 N) 59 P) 58 1 = N 1 from rfl]
  refine a_callV (Q' := m_res none (m_row (m_row (m_row (m_row (adI I l (N 0) (nI k0) (N 1) (plV k0 (N 1))) 40 F) 57 K) 58 N) 59 P) J R) (as := [.int (N 0), .int (nI k0), .int (N 1)]) (st := []) dReader_tell_130 ml7_227 rfl (Nat.le_of_ble_eq_true rfl) ly_41 rfl rfl (by decide) (by omega) (Nat.le_of_ble_eq_true rfl) rfl (Nat.le_refl _) (Nat.le_refl _) (by have h := c_addLetter (S := S) (d := d) (n := n) (J := J) (R := R) (I := rM I F K N P) (l := l) (k := k0) (h := N 0) (f := N 1) hn hR hL hl10 hk04; rw [rM_ad] at h; exact h) (m_go ?_)
  show AW _ _ _ _ _ _ _ _ [] _ _ _ _
  refine a_aload_n 0 dReader_tell_133 rfl rfl ?_
  refine a_aload_n 0 dReader_tell_134 rfl rfl ?_
  refine a_geti dReader_tell_135 fl7_93 rfl ly_40 (by omega) ?_
  rw [show (m_row (m_row (m_row (m_row (adI I l (N 0) (nI k0) (N 1) (plV k0 (N 1))) 40 F) 57 K) 58 N) 59 P) 40 16 = F 16 from rfl]
  refine a_aload_n 0 dReader_tell_138 rfl rfl ?_
  refine a_geta (r := 58) dReader_tell_139 fl7_36 rfl ly_40 (by omega) (rf_40_13 hR) ?_
  refine a_iconstN (a := 0) dReader_tell_142 (by decide) ?_
  refine a_ialdN (a := 0) dReader_tell_143 ly_58 (by omega) (by omega) (by decide) ?_
  rw [show (m_row (m_row (m_row (m_row (adI I l (N 0) (nI k0) (N 1) (plV k0 (N 1))) 40 F) 57 K) 58 N) 59 P) 58 0 = N 0 from rfl]
  refine a_max dReader_tell_144 mm7_87 (Nat.le_of_ble_eq_true rfl) (Nat.le_refl _) ?_
  refine a_puti dReader_tell_147 fl7_93 rfl ly_40 (by omega) ?_
  rw [show m_up (m_row (m_row (m_row (m_row (adI I l (N 0) (nI k0) (N 1) (plV k0 (N 1))) 40 F) 57 K) 58 N) 59 P) 40 16 (if (F 16) < (N 0) then (N 0) else (F 16)) = (m_row (m_row (m_row (m_row (adI I l (N 0) (nI k0) (N 1) (plV k0 (N 1))) 40 (va_up F 16 (if (F 16) < (N 0) then (N 0) else (F 16)))) 57 K) 58 N) 59 P) from (by rw [m_up_comm (by decide), m_up_comm (by decide), m_up_comm (by decide), m_up_r])]
  refine a_goto (tgt := 320) dReader_tell_150 (by decide) ?_
  exact a_vret dReader_tell_320 rfl ⟨rfl, rfl, rfl, rfl⟩
theorem c_tell3 {S : Nat × (Nat → Int32)} {d n : Nat} {I : mI} {J : mJ} {R : mR} (hn : 122 ≤ n) (hR : m_fin R) {K N P F : Nat → Int32} {k0 k1 : Nat} (hk0 : K 0 = nI k0) (hk1 : K 1 = nI k1) (hk04 : k0 < 4) (hk14 : k1 < 4)  : RUN S (d + 2) YReader_tell [.ref 40, .int (nI 3)] (m_row (m_row (m_row (m_row I 40 F) 57 K) 58 N) 59 P) J R n none (rM (tlwI I (4 * k0 + k1) (N 0)) F K N P) J R n := by
  show AW S _ YReader_tell n n _ 0 [(0, .ref 40), (1, .int (nI 3))] [] (m_row (m_row (m_row (m_row I 40 F) 57 K) 58 N) 59 P) J R n
  refine a_iload_n 1 dReader_tell_0 rfl rfl ?_
  refine a_tab (c := 3) (off := 152) (tgt := 153) dReader_tell_1 rfl (by decide) (by decide) (by decide) (by decide) ?_
  refine a_aload_n 0 dReader_tell_153 rfl rfl ?_
  refine a_callV (Q' := m_res none (rM (tlwI I (4 * k0 + k1) (N 0)) F K N P) J R) (as := []) (st := []) dReader_tell_154 ml7_231 rfl (Nat.le_of_ble_eq_true rfl) ly_40 rfl rfl (by decide) (by omega) (Nat.le_of_ble_eq_true rfl) rfl (Nat.le_refl _) (Nat.le_refl _) (c_tellLaw hn hR hk0 hk1 hk04 hk14) (m_go ?_)
  show AW _ _ _ _ _ _ _ _ [] _ _ _ _
  refine a_goto (tgt := 320) dReader_tell_157 (by decide) ?_
  exact a_vret dReader_tell_320 rfl ⟨rfl, rfl, rfl, rfl⟩
theorem c_tell4 {S : Nat × (Nat → Int32)} {d n : Nat} {I : mI} {J : mJ} {R : mR} (hn : 122 ≤ n) (hR : m_fin R) {K N P F : Nat → Int32} {v0 : Nat} (hv0 : N 0 = nI v0) (h06 : v0 < 10)  : RUN S (d + 2) YReader_tell [.ref 40, .int (nI 4)] (m_row (m_row (m_row (m_row I 40 F) 57 K) 58 N) 59 P) J R n none (rM (m_up (m_up I 47 v0 (N 1)) 48 v0 (N 2)) (va_up F 17 (if F 17 < (if nI v0 < N 1 then N 1 else nI v0) then (if nI v0 < N 1 then N 1 else nI v0) else F 17)) K N P) J R n := by
  show AW S _ YReader_tell n n _ 0 [(0, .ref 40), (1, .int (nI 4))] [] (m_row (m_row (m_row (m_row I 40 F) 57 K) 58 N) 59 P) J R n
  refine a_iload_n 1 dReader_tell_0 rfl rfl ?_
  refine a_tab (c := 4) (off := 159) (tgt := 160) dReader_tell_1 rfl (by decide) (by decide) (by decide) (by decide) ?_
  refine a_aload_n 0 dReader_tell_160 rfl rfl ?_
  refine a_geta (r := 41) dReader_tell_161 fl7_12 rfl ly_40 (by omega) (rf_40_0 hR) ?_
  refine a_geta (r := 47) dReader_tell_164 fl7_234 rfl ly_41 (by omega) (rf_41_8 hR) ?_
  refine a_aload_n 0 dReader_tell_167 rfl rfl ?_
  refine a_geta (r := 58) dReader_tell_168 fl7_36 rfl ly_40 (by omega) (rf_40_13 hR) ?_
  refine a_iconstN (a := 0) dReader_tell_171 (by decide) ?_
  refine a_ialdN (a := 0) dReader_tell_172 ly_58 (by omega) (by omega) (by decide) ?_
  rw [show (m_row (m_row (m_row (m_row I 40 F) 57 K) 58 N) 59 P) 58 0 = (nI v0) from hv0]
  refine a_aload_n 0 dReader_tell_173 rfl rfl ?_
  refine a_geta (r := 58) dReader_tell_174 fl7_36 rfl ly_40 (by omega) (rf_40_13 hR) ?_
  refine a_iconstN (a := 1) dReader_tell_177 (by decide) ?_
  refine a_ialdN (a := 1) dReader_tell_178 ly_58 (by omega) (by omega) (by decide) ?_
  rw [show (m_row (m_row (m_row (m_row I 40 F) 57 K) 58 N) 59 P) 58 1 = N 1 from rfl]
  refine a_iastN (a := v0) dReader_tell_179 ly_47 (by omega) (by omega) (by decide) ?_
  rw [show m_up (m_row (m_row (m_row (m_row I 40 F) 57 K) 58 N) 59 P) 47 v0 (N 1) = (m_row (m_row (m_row (m_row (m_up I 47 v0 (N 1)) 40 F) 57 K) 58 N) 59 P) from (by rw [m_up_comm (by decide), m_up_comm (by decide), m_up_comm (by decide), m_up_comm (by decide)])]
  refine a_aload_n 0 dReader_tell_180 rfl rfl ?_
  refine a_geta (r := 41) dReader_tell_181 fl7_12 rfl ly_40 (by omega) (rf_40_0 hR) ?_
  refine a_geta (r := 48) dReader_tell_184 fl7_237 rfl ly_41 (by omega) (rf_41_9 hR) ?_
  refine a_aload_n 0 dReader_tell_187 rfl rfl ?_
  refine a_geta (r := 58) dReader_tell_188 fl7_36 rfl ly_40 (by omega) (rf_40_13 hR) ?_
  refine a_iconstN (a := 0) dReader_tell_191 (by decide) ?_
  refine a_ialdN (a := 0) dReader_tell_192 ly_58 (by omega) (by omega) (by decide) ?_
  rw [show (m_row (m_row (m_row (m_row (m_up I 47 v0 (N 1)) 40 F) 57 K) 58 N) 59 P) 58 0 = (nI v0) from hv0]
  refine a_aload_n 0 dReader_tell_193 rfl rfl ?_
  refine a_geta (r := 58) dReader_tell_194 fl7_36 rfl ly_40 (by omega) (rf_40_13 hR) ?_
  refine a_iconstN (a := 2) dReader_tell_197 (by decide) ?_
  refine a_ialdN (a := 2) dReader_tell_198 ly_58 (by omega) (by omega) (by decide) ?_
  rw [show (m_row (m_row (m_row (m_row (m_up I 47 v0 (N 1)) 40 F) 57 K) 58 N) 59 P) 58 2 = N 2 from rfl]
  refine a_iastN (a := v0) dReader_tell_199 ly_48 (by omega) (by omega) (by decide) ?_
  rw [show m_up (m_row (m_row (m_row (m_row (m_up I 47 v0 (N 1)) 40 F) 57 K) 58 N) 59 P) 48 v0 (N 2) = (m_row (m_row (m_row (m_row (m_up (m_up I 47 v0 (N 1)) 48 v0 (N 2)) 40 F) 57 K) 58 N) 59 P) from (by rw [m_up_comm (by decide), m_up_comm (by decide), m_up_comm (by decide), m_up_comm (by decide)])]
  refine a_aload_n 0 dReader_tell_200 rfl rfl ?_
  refine a_aload_n 0 dReader_tell_201 rfl rfl ?_
  refine a_geti dReader_tell_202 fl7_96 rfl ly_40 (by omega) ?_
  rw [show (m_row (m_row (m_row (m_row (m_up (m_up I 47 v0 (N 1)) 48 v0 (N 2)) 40 F) 57 K) 58 N) 59 P) 40 17 = F 17 from rfl]
  refine a_aload_n 0 dReader_tell_205 rfl rfl ?_
  refine a_geta (r := 58) dReader_tell_206 fl7_36 rfl ly_40 (by omega) (rf_40_13 hR) ?_
  refine a_iconstN (a := 0) dReader_tell_209 (by decide) ?_
  refine a_ialdN (a := 0) dReader_tell_210 ly_58 (by omega) (by omega) (by decide) ?_
  rw [show (m_row (m_row (m_row (m_row (m_up (m_up I 47 v0 (N 1)) 48 v0 (N 2)) 40 F) 57 K) 58 N) 59 P) 58 0 = (nI v0) from hv0]
  refine a_aload_n 0 dReader_tell_211 rfl rfl ?_
  refine a_geta (r := 58) dReader_tell_212 fl7_36 rfl ly_40 (by omega) (rf_40_13 hR) ?_
  refine a_iconstN (a := 1) dReader_tell_215 (by decide) ?_
  refine a_ialdN (a := 1) dReader_tell_216 ly_58 (by omega) (by omega) (by decide) ?_
  rw [show (m_row (m_row (m_row (m_row (m_up (m_up I 47 v0 (N 1)) 48 v0 (N 2)) 40 F) 57 K) 58 N) 59 P) 58 1 = N 1 from rfl]
  refine a_max dReader_tell_217 mm7_87 (Nat.le_of_ble_eq_true rfl) (Nat.le_refl _) ?_
  refine a_max dReader_tell_220 mm7_87 (Nat.le_of_ble_eq_true rfl) (Nat.le_refl _) ?_
  refine a_puti dReader_tell_223 fl7_96 rfl ly_40 (by omega) ?_
  rw [show m_up (m_row (m_row (m_row (m_row (m_up (m_up I 47 v0 (N 1)) 48 v0 (N 2)) 40 F) 57 K) 58 N) 59 P) 40 17 (if (F 17) < (if (nI v0) < (N 1) then (N 1) else (nI v0)) then (if (nI v0) < (N 1) then (N 1) else (nI v0)) else (F 17)) = (m_row (m_row (m_row (m_row (m_up (m_up I 47 v0 (N 1)) 48 v0 (N 2)) 40 (va_up F 17 (if (F 17) < (if (nI v0) < (N 1) then (N 1) else (nI v0)) then (if (nI v0) < (N 1) then (N 1) else (nI v0)) else (F 17)))) 57 K) 58 N) 59 P) from (by rw [m_up_comm (by decide), m_up_comm (by decide), m_up_comm (by decide), m_up_r])]
  refine a_goto (tgt := 320) dReader_tell_226 (by decide) ?_
  exact a_vret dReader_tell_320 rfl ⟨rfl, rfl, rfl, rfl⟩
theorem c_tell5 {S : Nat × (Nat → Int32)} {d n : Nat} {I : mI} {J : mJ} {R : mR} (hn : 122 ≤ n) (hR : m_fin R) {K N P F : Nat → Int32} {c : Nat} (hL : I 50 0 = nI c) (hc40 : c < 40)  : RUN S (d + 2) YReader_tell [.ref 40, .int (nI 5)] (m_row (m_row (m_row (m_row I 40 F) 57 K) 58 N) 59 P) J R n none (rM (waI I c (nI 0) (N 0) (-1)) F K N P) J R n := by
  show AW S _ YReader_tell n n _ 0 [(0, .ref 40), (1, .int (nI 5))] [] (m_row (m_row (m_row (m_row I 40 F) 57 K) 58 N) 59 P) J R n
  refine a_iload_n 1 dReader_tell_0 rfl rfl ?_
  refine a_tab (c := 5) (off := 228) (tgt := 229) dReader_tell_1 rfl (by decide) (by decide) (by decide) (by decide) ?_
  refine a_aload_n 0 dReader_tell_229 rfl rfl ?_
  refine a_geta (r := 50) dReader_tell_230 fl7_21 rfl ly_40 (by omega) (rf_40_1 hR) ?_
  refine a_iconstN (a := 0) dReader_tell_233 (by decide) ?_
  refine a_aload_n 0 dReader_tell_234 rfl rfl ?_
  refine a_geta (r := 58) dReader_tell_235 fl7_36 rfl ly_40 (by omega) (rf_40_13 hR) ?_
  refine a_iconstN (a := 0) dReader_tell_238 (by decide) ?_
  refine a_ialdN (a := 0) dReader_tell_239 ly_58 (by omega) (by omega) (by decide) ?_
  rw [show (m_row (m_row (m_row (m_row I 40 F) 57 K) 58 N) 59 P) 58 0 = N 0 from rfl]
  refine a_iconst (v := -1) dReader_tell_240 (by decide) ?_
  refine a_callV (Q' := m_res none (rM (waI I c (nI 0) (N 0) (-1)) F K N P) J R) (as := [.int (nI 0), .int (N 0), .int (-1)]) (st := []) dReader_tell_241 ml7_240 rfl (Nat.le_of_ble_eq_true rfl) ly_50 rfl rfl (by decide) (by omega) (Nat.le_of_ble_eq_true rfl) rfl (Nat.le_refl _) (Nat.le_refl _) (by have h := c_weekAdd (S := S) (d := d + 1) (n := n) (J := J) (R := R) (I := rM I F K N P) (c := c) (a := nI 0) (l := N 0) (h := -1) hn hR hL hc40; rw [rM_wa] at h; exact h) (m_go ?_)
  show AW _ _ _ _ _ _ _ _ [] _ _ _ _
  refine a_goto (tgt := 320) dReader_tell_244 (by decide) ?_
  exact a_vret dReader_tell_320 rfl ⟨rfl, rfl, rfl, rfl⟩
theorem c_tell6 {S : Nat × (Nat → Int32)} {d n : Nat} {I : mI} {J : mJ} {R : mR} (hn : 122 ≤ n) (hR : m_fin R) {K N P F : Nat → Int32} {c : Nat} (hL : I 50 0 = nI c) (hc40 : c < 40)  : RUN S (d + 2) YReader_tell [.ref 40, .int (nI 6)] (m_row (m_row (m_row (m_row I 40 F) 57 K) 58 N) 59 P) J R n none (rM (waI I c (nI 1) (N 0) (N 1)) F K N P) J R n := by
  show AW S _ YReader_tell n n _ 0 [(0, .ref 40), (1, .int (nI 6))] [] (m_row (m_row (m_row (m_row I 40 F) 57 K) 58 N) 59 P) J R n
  refine a_iload_n 1 dReader_tell_0 rfl rfl ?_
  refine a_tab (c := 6) (off := 246) (tgt := 247) dReader_tell_1 rfl (by decide) (by decide) (by decide) (by decide) ?_
  refine a_aload_n 0 dReader_tell_247 rfl rfl ?_
  refine a_geta (r := 50) dReader_tell_248 fl7_21 rfl ly_40 (by omega) (rf_40_1 hR) ?_
  refine a_iconstN (a := 1) dReader_tell_251 (by decide) ?_
  refine a_aload_n 0 dReader_tell_252 rfl rfl ?_
  refine a_geta (r := 58) dReader_tell_253 fl7_36 rfl ly_40 (by omega) (rf_40_13 hR) ?_
  refine a_iconstN (a := 0) dReader_tell_256 (by decide) ?_
  refine a_ialdN (a := 0) dReader_tell_257 ly_58 (by omega) (by omega) (by decide) ?_
  rw [show (m_row (m_row (m_row (m_row I 40 F) 57 K) 58 N) 59 P) 58 0 = N 0 from rfl]
  refine a_aload_n 0 dReader_tell_258 rfl rfl ?_
  refine a_geta (r := 58) dReader_tell_259 fl7_36 rfl ly_40 (by omega) (rf_40_13 hR) ?_
  refine a_iconstN (a := 1) dReader_tell_262 (by decide) ?_
  refine a_ialdN (a := 1) dReader_tell_263 ly_58 (by omega) (by omega) (by decide) ?_
  rw [show (m_row (m_row (m_row (m_row I 40 F) 57 K) 58 N) 59 P) 58 1 = N 1 from rfl]
  refine a_callV (Q' := m_res none (rM (waI I c (nI 1) (N 0) (N 1)) F K N P) J R) (as := [.int (nI 1), .int (N 0), .int (N 1)]) (st := []) dReader_tell_264 ml7_240 rfl (Nat.le_of_ble_eq_true rfl) ly_50 rfl rfl (by decide) (by omega) (Nat.le_of_ble_eq_true rfl) rfl (Nat.le_refl _) (Nat.le_refl _) (by have h := c_weekAdd (S := S) (d := d + 1) (n := n) (J := J) (R := R) (I := rM I F K N P) (c := c) (a := nI 1) (l := N 0) (h := N 1) hn hR hL hc40; rw [rM_wa] at h; exact h) (m_go ?_)
  show AW _ _ _ _ _ _ _ _ [] _ _ _ _
  refine a_goto (tgt := 320) dReader_tell_267 (by decide) ?_
  exact a_vret dReader_tell_320 rfl ⟨rfl, rfl, rfl, rfl⟩
theorem c_tell7 {S : Nat × (Nat → Int32)} {d n : Nat} {I : mI} {J : mJ} {R : mR} (hn : 122 ≤ n) (hR : m_fin R) {K N P F : Nat → Int32} {c : Nat} (hL : I 50 0 = nI c) (hc40 : c < 40)  : RUN S (d + 2) YReader_tell [.ref 40, .int (nI 7)] (m_row (m_row (m_row (m_row I 40 F) 57 K) 58 N) 59 P) J R n none (rM (waI I c (nI 2) (N 0) (-1)) F K N P) J R n := by
  show AW S _ YReader_tell n n _ 0 [(0, .ref 40), (1, .int (nI 7))] [] (m_row (m_row (m_row (m_row I 40 F) 57 K) 58 N) 59 P) J R n
  refine a_iload_n 1 dReader_tell_0 rfl rfl ?_
  refine a_tab (c := 7) (off := 269) (tgt := 270) dReader_tell_1 rfl (by decide) (by decide) (by decide) (by decide) ?_
  refine a_aload_n 0 dReader_tell_270 rfl rfl ?_
  refine a_geta (r := 50) dReader_tell_271 fl7_21 rfl ly_40 (by omega) (rf_40_1 hR) ?_
  refine a_iconstN (a := 2) dReader_tell_274 (by decide) ?_
  refine a_aload_n 0 dReader_tell_275 rfl rfl ?_
  refine a_geta (r := 58) dReader_tell_276 fl7_36 rfl ly_40 (by omega) (rf_40_13 hR) ?_
  refine a_iconstN (a := 0) dReader_tell_279 (by decide) ?_
  refine a_ialdN (a := 0) dReader_tell_280 ly_58 (by omega) (by omega) (by decide) ?_
  rw [show (m_row (m_row (m_row (m_row I 40 F) 57 K) 58 N) 59 P) 58 0 = N 0 from rfl]
  refine a_iconst (v := -1) dReader_tell_281 (by decide) ?_
  refine a_callV (Q' := m_res none (rM (waI I c (nI 2) (N 0) (-1)) F K N P) J R) (as := [.int (nI 2), .int (N 0), .int (-1)]) (st := []) dReader_tell_282 ml7_240 rfl (Nat.le_of_ble_eq_true rfl) ly_50 rfl rfl (by decide) (by omega) (Nat.le_of_ble_eq_true rfl) rfl (Nat.le_refl _) (Nat.le_refl _) (by have h := c_weekAdd (S := S) (d := d + 1) (n := n) (J := J) (R := R) (I := rM I F K N P) (c := c) (a := nI 2) (l := N 0) (h := -1) hn hR hL hc40; rw [rM_wa] at h; exact h) (m_go ?_)
  show AW _ _ _ _ _ _ _ _ [] _ _ _ _
  refine a_goto (tgt := 320) dReader_tell_285 (by decide) ?_
  exact a_vret dReader_tell_320 rfl ⟨rfl, rfl, rfl, rfl⟩
theorem c_tell8 {S : Nat × (Nat → Int32)} {d n : Nat} {I : mI} {J : mJ} {R : mR} (hn : 122 ≤ n) (hR : m_fin R) {K N P F : Nat → Int32} {c : Nat} (hL : I 50 0 = nI c) (hc40 : c < 40)  : RUN S (d + 2) YReader_tell [.ref 40, .int (nI 8)] (m_row (m_row (m_row (m_row I 40 F) 57 K) 58 N) 59 P) J R n none (rM (waI I c (nI 3) (-1) (-1)) F K N P) J R n := by
  show AW S _ YReader_tell n n _ 0 [(0, .ref 40), (1, .int (nI 8))] [] (m_row (m_row (m_row (m_row I 40 F) 57 K) 58 N) 59 P) J R n
  refine a_iload_n 1 dReader_tell_0 rfl rfl ?_
  refine a_tab (c := 8) (off := 287) (tgt := 288) dReader_tell_1 rfl (by decide) (by decide) (by decide) (by decide) ?_
  refine a_aload_n 0 dReader_tell_288 rfl rfl ?_
  refine a_geta (r := 50) dReader_tell_289 fl7_21 rfl ly_40 (by omega) (rf_40_1 hR) ?_
  refine a_iconstN (a := 3) dReader_tell_292 (by decide) ?_
  refine a_iconst (v := -1) dReader_tell_293 (by decide) ?_
  refine a_iconst (v := -1) dReader_tell_294 (by decide) ?_
  refine a_callV (Q' := m_res none (rM (waI I c (nI 3) (-1) (-1)) F K N P) J R) (as := [.int (nI 3), .int (-1), .int (-1)]) (st := []) dReader_tell_295 ml7_240 rfl (Nat.le_of_ble_eq_true rfl) ly_50 rfl rfl (by decide) (by omega) (Nat.le_of_ble_eq_true rfl) rfl (Nat.le_refl _) (Nat.le_refl _) (by have h := c_weekAdd (S := S) (d := d + 1) (n := n) (J := J) (R := R) (I := rM I F K N P) (c := c) (a := nI 3) (l := -1) (h := -1) hn hR hL hc40; rw [rM_wa] at h; exact h) (m_go ?_)
  show AW _ _ _ _ _ _ _ _ [] _ _ _ _
  refine a_goto (tgt := 320) dReader_tell_298 (by decide) ?_
  exact a_vret dReader_tell_320 rfl ⟨rfl, rfl, rfl, rfl⟩
theorem c_tell9 {S : Nat × (Nat → Int32)} {d n : Nat} {I : mI} {J : mJ} {R : mR} (hn : 122 ≤ n) (hR : m_fin R) {K N P F : Nat → Int32} {c : Nat} (hL : I 54 0 = nI c) (hc8 : c < 8)  : RUN S (d + 2) YReader_tell [.ref 40, .int (nI 9)] (m_row (m_row (m_row (m_row I 40 F) 57 K) 58 N) 59 P) J R n none (rM (gaI I c (N 0) (N 1)) F K N P) J R n := by
  show AW S _ YReader_tell n n _ 0 [(0, .ref 40), (1, .int (nI 9))] [] (m_row (m_row (m_row (m_row I 40 F) 57 K) 58 N) 59 P) J R n
  refine a_iload_n 1 dReader_tell_0 rfl rfl ?_
  refine a_tableOut (tgt := 301) dReader_tell_1 (Or.inr (by decide)) (by decide) ?_
  refine a_aload_n 0 dReader_tell_301 rfl rfl ?_
  refine a_geta (r := 54) dReader_tell_302 fl7_28 rfl ly_40 (by omega) (rf_40_2 hR) ?_
  refine a_aload_n 0 dReader_tell_305 rfl rfl ?_
  refine a_geta (r := 58) dReader_tell_306 fl7_36 rfl ly_40 (by omega) (rf_40_13 hR) ?_
  refine a_iconstN (a := 0) dReader_tell_309 (by decide) ?_
  refine a_ialdN (a := 0) dReader_tell_310 ly_58 (by omega) (by omega) (by decide) ?_
  rw [show (m_row (m_row (m_row (m_row I 40 F) 57 K) 58 N) 59 P) 58 0 = N 0 from rfl]
  refine a_aload_n 0 dReader_tell_311 rfl rfl ?_
  refine a_geta (r := 58) dReader_tell_312 fl7_36 rfl ly_40 (by omega) (rf_40_13 hR) ?_
  refine a_iconstN (a := 1) dReader_tell_315 (by decide) ?_
  refine a_ialdN (a := 1) dReader_tell_316 ly_58 (by omega) (by omega) (by decide) ?_
  rw [show (m_row (m_row (m_row (m_row I 40 F) 57 K) 58 N) 59 P) 58 1 = N 1 from rfl]
  refine a_callV (Q' := m_res none (rM (gaI I c (N 0) (N 1)) F K N P) J R) (as := [.int (N 0), .int (N 1)]) (st := []) dReader_tell_317 ml7_243 rfl (Nat.le_of_ble_eq_true rfl) ly_54 rfl rfl (by decide) (by omega) (Nat.le_of_ble_eq_true rfl) rfl (Nat.le_refl _) (Nat.le_refl _) (by have h := c_logAdd (S := S) (d := d + 1) (n := n) (J := J) (R := R) (I := rM I F K N P) (c := c) (h := N 0) (m := N 1) hn hR hL hc8; rw [rM_ga] at h; exact h) (m_go ?_)
  show AW _ _ _ _ _ _ _ _ [] _ _ _ _
  exact a_vret dReader_tell_320 rfl ⟨rfl, rfl, rfl, rfl⟩
