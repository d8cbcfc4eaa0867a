theorem l_moodsTogether {S : Nat × (Nat → Int32)} {d n : Nat} {I : mI} {J : mJ} {R : mR} {md ls cm : Nat → Int32} {ni le sl dn fa id0 gr lo : Int32}  (hn : 122 ≤ n) (hR : m_fin R) {o nh nl : Nat} (ho : o ∈ m_offs) (hr : offR R o) (hon : o + 8 < n) (hRo : R 60 0 = some o) (hh : I o 0 = nI nh) (hnh : nh ≤ 6) (hl : I o 1 = nI nl) (hnl : nl ≤ 10)  {Q : Option Value → mI → mJ → mR → Prop} (hQ : Q (some (.int (smN md nh))) (cr60 I md ls cm ni le sl dn fa id0 gr lo) J R) : ∀ m k, k + m = nh → AW S d YCourse_moodsTogether n n Q 4 [(2, .int (nI k)), (1, .int (smN md k)), (0, .ref 60)] [] (cr60 I md ls cm ni le sl dn fa id0 gr lo) J R n := by
  intro m
  induction m with
  | zero =>
    intro k hk9
    rw [show k = nh by omega]
    refine a_iload_n 0 dCourse_moodsTogether_4 rfl rfl ?_
    refine a_aload_n 2 dCourse_moodsTogether_5 rfl rfl ?_
    refine a_geta (r := o) dCourse_moodsTogether_6 fl2_21 rfl ly_60 (by omega) hRo ?_
    refine a_geti dCourse_moodsTogether_9 fl2_108 rfl (of_l0 ho) (by omega) ?_
    rw [show (cr60 I md ls cm ni le sl dn fa id0 gr lo) o 0 = (nI nh) from (by rw [cr60_off0 ho]; exact hh)]
    refine a_icmp_geN (tgt := 30) dCourse_moodsTogether_12 (by decide) (by omega) (by omega) (fun _ => ?_) (fun c => False.elim (by omega))
    refine a_iload_n 1 dCourse_moodsTogether_30 rfl rfl ?_
    exact a_iret dCourse_moodsTogether_31 rfl hQ
  | succ m ih =>
    intro k hk9
    refine a_iload_n 0 dCourse_moodsTogether_4 rfl rfl ?_
    refine a_aload_n 2 dCourse_moodsTogether_5 rfl rfl ?_
    refine a_geta (r := o) dCourse_moodsTogether_6 fl2_21 rfl ly_60 (by omega) hRo ?_
    refine a_geti dCourse_moodsTogether_9 fl2_108 rfl (of_l0 ho) (by omega) ?_
    rw [show (cr60 I md ls cm ni le sl dn fa id0 gr lo) o 0 = (nI nh) from (by rw [cr60_off0 ho]; exact hh)]
    refine a_icmp_geN (tgt := 30) dCourse_moodsTogether_12 (by decide) (by omega) (by omega) (fun c => False.elim (by omega)) (fun _ => ?_)
    refine a_iload_n 1 dCourse_moodsTogether_15 rfl rfl ?_
    refine a_aload_n 2 dCourse_moodsTogether_16 rfl rfl ?_
    refine a_geta (r := 61) dCourse_moodsTogether_17 fl2_9 rfl ly_60 (by omega) (rf_60_6 hR) ?_
    refine a_iload_n 0 dCourse_moodsTogether_20 rfl rfl ?_
    refine a_ialdN (a := k) dCourse_moodsTogether_21 ly_61 (by omega) (by omega) (by decide) ?_
    rw [show (cr60 I md ls cm ni le sl dn fa id0 gr lo) 61 k = md k from (by rw [cr60_1])]
    refine a_iadd dCourse_moodsTogether_22 ?_
    refine a_istore_n (lv' := [(1, .int ((smN md k) + (md k))), (2, .int (nI k)), (0, .ref 60)]) dCourse_moodsTogether_23 rfl (by decide) rfl ?_
    refine a_iincN (lv' := [(2, .int (nI (k + 1))), (1, .int ((smN md k) + (md k))), (0, .ref 60)]) (j := 1) dCourse_moodsTogether_24 rfl (by decide) rfl ?_
    refine a_goto (tgt := 4) dCourse_moodsTogether_27 (by decide) ?_
    refine a_locs (lv' := [(2, .int (nI (k + 1))), (1, .int ((smN md k) + (md k))), (0, .ref 60)]) [0, 1, 2] rfl ?_
    have hh := ih (k + 1) (by omega)
    exact hh
theorem c_moodsTogether {S : Nat × (Nat → Int32)} {d n : Nat} {I : mI} {J : mJ} {R : mR} {md ls cm : Nat → Int32} {ni le sl dn fa id0 gr lo : Int32}  (hn : 122 ≤ n) (hR : m_fin R) {o nh nl : Nat} (ho : o ∈ m_offs) (hr : offR R o) (hon : o + 8 < n) (hRo : R 60 0 = some o) (hh : I o 0 = nI nh) (hnh : nh ≤ 6) (hl : I o 1 = nI nl) (hnl : nl ≤ 10)  : RUN S d YCourse_moodsTogether [.ref 60] (cr60 I md ls cm ni le sl dn fa id0 gr lo) J R n (some (.int (smN md nh))) (cr60 I md ls cm ni le sl dn fa id0 gr lo) J R n := by
  show AW S _ YCourse_moodsTogether n n _ 0 [(0, .ref 60)] [] (cr60 I md ls cm ni le sl dn fa id0 gr lo) J R n
  refine a_iconstN (a := 0) dCourse_moodsTogether_0 (by decide) ?_
  refine a_istore_n (lv' := [(1, .int (nI 0)), (0, .ref 60)]) dCourse_moodsTogether_1 rfl (by decide) rfl ?_
  refine a_iconstN (a := 0) dCourse_moodsTogether_2 (by decide) ?_
  refine a_istore_n (lv' := [(2, .int (nI 0)), (1, .int (nI 0)), (0, .ref 60)]) dCourse_moodsTogether_3 rfl (by decide) rfl ?_
  refine a_locs (lv' := [(2, .int (nI 0)), (1, .int (nI 0)), (0, .ref 60)]) [0, 1, 2] rfl ?_
  exact l_moodsTogether hn hR ho hr hon hRo hh hnh hl hnl ⟨rfl, rfl, rfl, rfl⟩ nh 0 (by omega)
def ohF (nh : Nat) (md ls cm : Nat → Int32) (x : Int32) (b : Nat) : Int32 := if f_of (nI b) (nI nh) = 0 then -1000 else if x = 1 then md b else if x = 2 then ls b else if x = 3 then cm b else -1000
theorem c_ofHouse {S : Nat × (Nat → Int32)} {d n : Nat} {I : mI} {J : mJ} {R : mR} {md ls cm : Nat → Int32} {ni le sl dn fa id0 gr lo : Int32}  (hn : 122 ≤ n) (hR : m_fin R) {o nh nl : Nat} (ho : o ∈ m_offs) (hr : offR R o) (hon : o + 8 < n) (hRo : R 60 0 = some o) (hh : I o 0 = nI nh) (hnh : nh ≤ 6) (hl : I o 1 = nI nl) (hnl : nl ≤ 10) {x : Int32} {b : Nat} (hb : b < 10)  : RUN S (d + 1) YCourse_ofHouse [.ref 60, .int x, .int (nI b)] (cr60 I md ls cm ni le sl dn fa id0 gr lo) J R n (some (.int (ohF nh md ls cm x b))) (cr60 I md ls cm ni le sl dn fa id0 gr lo) J R n := by
  show AW S _ YCourse_ofHouse n n _ 0 [(0, .ref 60), (1, .int x), (2, .int (nI b))] [] (cr60 I md ls cm ni le sl dn fa id0 gr lo) J R n
  refine a_aload_n 0 dCourse_ofHouse_0 rfl rfl ?_
  refine a_geta (r := o) dCourse_ofHouse_1 fl2_21 rfl ly_60 (by omega) hRo ?_
  refine a_iload_n 2 dCourse_ofHouse_4 rfl rfl ?_
  refine a_callV (Q' := m_res (some (.int (f_of (nI b) (nI nh)))) (cr60 I md ls cm ni le sl dn fa id0 gr lo) J R) (as := [.int (nI b)]) (st := []) dCourse_ofHouse_5 ml2_118 rfl (Nat.le_of_ble_eq_true rfl) (of_l0 ho) rfl rfl (by decide) (by omega) (Nat.le_of_ble_eq_true rfl) rfl (Nat.le_refl _) (Nat.le_refl _) (by have h := c_Office_hasHouse (S := S) (d := d) (J := J) (I := (cr60 I md ls cm ni le sl dn fa id0 gr lo)) (h := (nI b)) ho hr hon; rw [cr60_off0 ho, hh] at h; exact h) (m_go ?_)
  show AW _ _ _ _ _ _ _ _ [.int (f_of (nI b) (nI nh))] _ _ _ _
  refine a_if_ne (tgt := 15) dCourse_ofHouse_8 (by decide) (fun c8 => ?_) (fun c8 => ?_)
  · refine a_iload_n 1 dCourse_ofHouse_15 rfl rfl ?_
    by_cases hs1 : x = 1
    · refine a_tab (off := 28) (tgt := 44) dCourse_ofHouse_16 hs1 (by decide) (by decide) (by decide) (by decide) ?_
      refine a_aload_n 0 dCourse_ofHouse_44 rfl rfl ?_
      refine a_geta (r := 61) dCourse_ofHouse_45 fl2_9 rfl ly_60 (by omega) (rf_60_6 hR) ?_
      refine a_iload_n 2 dCourse_ofHouse_48 rfl rfl ?_
      refine a_ialdN (a := b) dCourse_ofHouse_49 ly_61 (by omega) (by rw [f_of_z (by omega) (by omega)] at c8; omega) (by decide) ?_
      rw [show (cr60 I md ls cm ni le sl dn fa id0 gr lo) 61 b = md b from (by rw [cr60_1])]
      exact a_iret dCourse_ofHouse_50 rfl ⟨by unfold ohF; rw [if_neg c8, if_pos hs1], rfl, rfl, rfl⟩
    by_cases hs2 : x = 2
    · refine a_tab (off := 35) (tgt := 51) dCourse_ofHouse_16 hs2 (by decide) (by decide) (by decide) (by decide) ?_
      refine a_aload_n 0 dCourse_ofHouse_51 rfl rfl ?_
      refine a_geta (r := 62) dCourse_ofHouse_52 fl2_15 rfl ly_60 (by omega) (rf_60_7 hR) ?_
      refine a_iload_n 2 dCourse_ofHouse_55 rfl rfl ?_
      refine a_ialdN (a := b) dCourse_ofHouse_56 ly_62 (by omega) (by rw [f_of_z (by omega) (by omega)] at c8; omega) (by decide) ?_
      rw [show (cr60 I md ls cm ni le sl dn fa id0 gr lo) 62 b = ls b from (by rw [cr60_2])]
      exact a_iret dCourse_ofHouse_57 rfl ⟨by unfold ohF; rw [if_neg c8, if_neg hs1, if_pos hs2], rfl, rfl, rfl⟩
    by_cases hs3 : x = 3
    · refine a_tab (off := 42) (tgt := 58) dCourse_ofHouse_16 hs3 (by decide) (by decide) (by decide) (by decide) ?_
      refine a_aload_n 0 dCourse_ofHouse_58 rfl rfl ?_
      refine a_geta (r := 63) dCourse_ofHouse_59 fl2_18 rfl ly_60 (by omega) (rf_60_8 hR) ?_
      refine a_iload_n 2 dCourse_ofHouse_62 rfl rfl ?_
      refine a_ialdN (a := b) dCourse_ofHouse_63 ly_63 (by omega) (by rw [f_of_z (by omega) (by omega)] at c8; omega) (by decide) ?_
      rw [show (cr60 I md ls cm ni le sl dn fa id0 gr lo) 63 b = cm b from (by rw [cr60_3])]
      exact a_iret dCourse_ofHouse_64 rfl ⟨by unfold ohF; rw [if_neg c8, if_neg hs1, if_neg hs2, if_pos hs3], rfl, rfl, rfl⟩
    refine a_tableOut (tgt := 65) dCourse_ofHouse_16 (m_swo1_3 hs1 hs2 hs3) (by decide) ?_
    refine a_sipush (v := -1000) dCourse_ofHouse_65 (by decide) ?_
    exact a_iret dCourse_ofHouse_68 rfl ⟨by unfold ohF; rw [if_neg c8, if_neg hs1, if_neg hs2, if_neg hs3], rfl, rfl, rfl⟩
  · refine a_sipush (v := -1000) dCourse_ofHouse_11 (by decide) ?_
    exact a_iret dCourse_ofHouse_14 rfl ⟨by unfold ohF; rw [if_pos c8], rfl, rfl, rfl⟩
theorem oh_os {w nh : Nat} {s : cS} (hw : 10 ≤ w) (hw2 : w < 2 ^ 31) (hnh : nh ≤ 6) : ohF nh s.1 s.2.1 s.2.2.1 (nI (w / 10)) (w % 10) = osF nh s (nI w) := by
  have lit : ∀ a q : Nat, a < 2 ^ 31 → q < 2 ^ 31 → a ≠ q → ¬ nI a = nI q := fun a q ha hq hne c => hne ((nI_eq ha hq).mp c)
  unfold ohF osF
  by_cases h39 : w ≤ 39
  · have hx : f_in (nI w) (nI 10) (nI 39) = 1 := f_in_n hw h39 (by decide)
    have hx2 : ¬ f_in (nI w) 10 39 = 0 := by show ¬ f_in (nI w) (nI 10) (nI 39) = 0; rw [hx]; decide
    rw [if_neg hx2, nI_clamp (by omega)]
    by_cases hb : w % 10 < nh
    · rw [if_neg (show ¬ f_of (nI (w % 10)) (nI nh) = 0 by rw [f_of_z (by omega) (by omega)]; omega), if_pos hb]
      rcases (show w / 10 = 1 ∨ w / 10 = 2 ∨ w / 10 = 3 by omega) with h | h | h
      · rw [h, if_pos (show nI 1 = (1 : Int32) from rfl), if_pos (show w < 20 by omega)]
      · rw [h, if_neg (show ¬ nI 2 = (1 : Int32) by decide), if_pos (show nI 2 = (2 : Int32) from rfl), if_neg (show ¬ w < 20 by omega), if_pos (show w < 30 by omega)]
      · rw [h, if_neg (show ¬ nI 3 = (1 : Int32) by decide), if_neg (show ¬ nI 3 = (2 : Int32) by decide), if_pos (show nI 3 = (3 : Int32) from rfl), if_neg (show ¬ w < 20 by omega), if_neg (show ¬ w < 30 by omega)]
    · rw [if_pos (show f_of (nI (w % 10)) (nI nh) = 0 by rw [f_of_z (by omega) (by omega)]; omega), if_neg hb]
  · have hx2 : f_in (nI w) 10 39 = 0 := by
      unfold f_in
      rw [if_neg (show ¬ nI w < (10 : Int32) from nI_nlt (b := 10) (by omega) (by omega)), if_pos (show (39 : Int32) < nI w from nI_lt (a := 39) (by omega) (by omega))]
    rw [if_pos hx2, if_neg (show ¬ nI w = (0 : Int32) from lit w 0 (by omega) (by decide) (by omega)), if_neg (show ¬ nI w = (1 : Int32) from lit w 1 (by omega) (by decide) (by omega)), if_neg (show ¬ nI w = (2 : Int32) from lit w 2 (by omega) (by decide) (by omega)), if_neg (show ¬ nI w = (3 : Int32) from lit w 3 (by omega) (by decide) (by omega)), if_neg (show ¬ nI w = (4 : Int32) from lit w 4 (by omega) (by decide) (by omega))]
    split
    · rfl
    · rw [if_neg (show ¬ nI (w / 10) = (1 : Int32) from lit (w / 10) 1 (by omega) (by decide) (by omega)), if_neg (show ¬ nI (w / 10) = (2 : Int32) from lit (w / 10) 2 (by omega) (by decide) (by omega)), if_neg (show ¬ nI (w / 10) = (3 : Int32) from lit (w / 10) 3 (by omega) (by decide) (by omega))]
theorem f_in_lo {x : Int32} (h : ¬ nI 10 ≤ x) : f_in x 10 39 = 0 := by
  unfold f_in
  rw [if_pos (show x < 10 from Int32.not_le.mp h)]
theorem c_answer0 {S : Nat × (Nat → Int32)} {d n : Nat} {I : mI} {J : mJ} {R : mR} {s : cS} {p : Int32 × Int32} (hn : 122 ≤ n) (hR : m_fin R) {o nh nl : Nat} (ho : o ∈ m_offs) (hr : offR R o) (hon : o + 8 < n) (hRo : R 60 0 = some o) (hh : I o 0 = nI nh) (hnh : nh ≤ 6) (hl : I o 1 = nI nl) (hnl : nl ≤ 10) {x : Int32} (hx : ¬ nI 10 ≤ x) : RUN S (d + 2) YCourse_answer [.ref 60, .int x] (ccT I s p) J R n (some (.int (osF nh s x))) (ccT I s p) J R n := by
  show AW S _ YCourse_answer n n _ 0 [(0, .ref 60), (1, .int x)] [] (cr60 I s.1 s.2.1 s.2.2.1 s.2.2.2.1 s.2.2.2.2.1 s.2.2.2.2.2.1 s.2.2.2.2.2.2.1 s.2.2.2.2.2.2.2.1 s.2.2.2.2.2.2.2.2 p.2 p.1) J R n
  refine a_iload_n 1 dCourse_answer_0 rfl rfl ?_
  by_cases hs0 : x = 0
  · refine a_tab (off := 35) (tgt := 36) dCourse_answer_1 hs0 (by decide) (by decide) (by decide) (by decide) ?_
    refine a_aload_n 0 dCourse_answer_36 rfl rfl ?_
    refine a_geti dCourse_answer_37 fl2_34 rfl ly_60 (by omega) ?_
    rw [show (cr60 I s.1 s.2.1 s.2.2.1 s.2.2.2.1 s.2.2.2.2.1 s.2.2.2.2.2.1 s.2.2.2.2.2.2.1 s.2.2.2.2.2.2.2.1 s.2.2.2.2.2.2.2.2 p.2 p.1) 60 3 = s.2.2.2.1 from rfl]
    exact a_iret dCourse_answer_40 rfl ⟨by unfold osF; rw [if_pos (f_in_lo hx), if_pos hs0], rfl, rfl, rfl⟩
  by_cases hs1 : x = 1
  · refine a_tab (off := 40) (tgt := 41) dCourse_answer_1 hs1 (by decide) (by decide) (by decide) (by decide) ?_
    refine a_aload_n 0 dCourse_answer_41 rfl rfl ?_
    refine a_geti dCourse_answer_42 fl2_31 rfl ly_60 (by omega) ?_
    rw [show (cr60 I s.1 s.2.1 s.2.2.1 s.2.2.2.1 s.2.2.2.2.1 s.2.2.2.2.2.1 s.2.2.2.2.2.2.1 s.2.2.2.2.2.2.2.1 s.2.2.2.2.2.2.2.2 p.2 p.1) 60 2 = s.2.2.2.2.1 from rfl]
    exact a_iret dCourse_answer_45 rfl ⟨by unfold osF; rw [if_pos (f_in_lo hx), if_neg hs0, if_pos hs1], rfl, rfl, rfl⟩
  by_cases hs2 : x = 2
  · refine a_tab (off := 45) (tgt := 46) dCourse_answer_1 hs2 (by decide) (by decide) (by decide) (by decide) ?_
    refine a_aload_n 0 dCourse_answer_46 rfl rfl ?_
    refine a_geti dCourse_answer_47 fl2_37 rfl ly_60 (by omega) ?_
    rw [show (cr60 I s.1 s.2.1 s.2.2.1 s.2.2.2.1 s.2.2.2.2.1 s.2.2.2.2.2.1 s.2.2.2.2.2.2.1 s.2.2.2.2.2.2.2.1 s.2.2.2.2.2.2.2.2 p.2 p.1) 60 4 = s.2.2.2.2.2.1 from rfl]
    exact a_iret dCourse_answer_50 rfl ⟨by unfold osF; rw [if_pos (f_in_lo hx), if_neg hs0, if_neg hs1, if_pos hs2], rfl, rfl, rfl⟩
  by_cases hs3 : x = 3
  · refine a_tab (off := 50) (tgt := 51) dCourse_answer_1 hs3 (by decide) (by decide) (by decide) (by decide) ?_
    refine a_aload_n 0 dCourse_answer_51 rfl rfl ?_
    refine a_geti dCourse_answer_52 fl2_40 rfl ly_60 (by omega) ?_
    rw [show (cr60 I s.1 s.2.1 s.2.2.1 s.2.2.2.1 s.2.2.2.2.1 s.2.2.2.2.2.1 s.2.2.2.2.2.2.1 s.2.2.2.2.2.2.2.1 s.2.2.2.2.2.2.2.2 p.2 p.1) 60 5 = s.2.2.2.2.2.2.1 from rfl]
    exact a_iret dCourse_answer_55 rfl ⟨by unfold osF; rw [if_pos (f_in_lo hx), if_neg hs0, if_neg hs1, if_neg hs2, if_pos hs3], rfl, rfl, rfl⟩
  by_cases hs4 : x = 4
  · refine a_tab (off := 55) (tgt := 56) dCourse_answer_1 hs4 (by decide) (by decide) (by decide) (by decide) ?_
    refine a_aload_n 0 dCourse_answer_56 rfl rfl ?_
    refine a_callV (Q' := m_res (some (.int (smN s.1 nh))) (cr60 I s.1 s.2.1 s.2.2.1 s.2.2.2.1 s.2.2.2.2.1 s.2.2.2.2.2.1 s.2.2.2.2.2.2.1 s.2.2.2.2.2.2.2.1 s.2.2.2.2.2.2.2.2 p.2 p.1) J R) (as := []) (st := []) dCourse_answer_57 ml2_140 rfl (Nat.le_of_ble_eq_true rfl) ly_60 rfl rfl (by decide) (by omega) (Nat.le_of_ble_eq_true rfl) rfl (Nat.le_refl _) (Nat.le_refl _) (c_moodsTogether hn hR ho hr hon hRo hh hnh hl hnl) (m_go ?_)
    show AW _ _ _ _ _ _ _ _ [.int (smN s.1 nh)] _ _ _ _
    exact a_iret dCourse_answer_60 rfl ⟨by unfold osF; rw [if_pos (f_in_lo hx), if_neg hs0, if_neg hs1, if_neg hs2, if_neg hs3, if_pos hs4], rfl, rfl, rfl⟩
  refine a_tableOut (tgt := 61) dCourse_answer_1 (m_swo0_4 hs0 hs1 hs2 hs3 hs4) (by decide) ?_
  refine a_iload_n 1 dCourse_answer_61 rfl rfl ?_
  refine a_bipushN (a := 10) dCourse_answer_62 (by decide) ?_
  refine a_icmp_ge (tgt := 73) dCourse_answer_64 (by decide) (fun c => False.elim (hx c)) (fun _ => ?_)
  refine a_sipush (v := -1000) dCourse_answer_67 (by decide) ?_
  refine a_goto (tgt := 85) dCourse_answer_70 (by decide) ?_
  exact a_iret dCourse_answer_85 rfl ⟨by unfold osF; rw [if_pos (f_in_lo hx), if_neg hs0, if_neg hs1, if_neg hs2, if_neg hs3, if_neg hs4], rfl, rfl, rfl⟩
theorem c_answer1 {S : Nat × (Nat → Int32)} {d n : Nat} {I : mI} {J : mJ} {R : mR} {s : cS} {p : Int32 × Int32} (hn : 122 ≤ n) (hR : m_fin R) {o nh nl : Nat} (ho : o ∈ m_offs) (hr : offR R o) (hon : o + 8 < n) (hRo : R 60 0 = some o) (hh : I o 0 = nI nh) (hnh : nh ≤ 6) (hl : I o 1 = nI nl) (hnl : nl ≤ 10) {w : Nat} (hw : 10 ≤ w) (hw2 : w < 2 ^ 31) : RUN S (d + 2) YCourse_answer [.ref 60, .int (nI w)] (ccT I s p) J R n (some (.int (osF nh s (nI w)))) (ccT I s p) J R n := by
  show AW S _ YCourse_answer n n _ 0 [(0, .ref 60), (1, .int (nI w))] [] (cr60 I s.1 s.2.1 s.2.2.1 s.2.2.2.1 s.2.2.2.2.1 s.2.2.2.2.2.1 s.2.2.2.2.2.2.1 s.2.2.2.2.2.2.2.1 s.2.2.2.2.2.2.2.2 p.2 p.1) J R n
  refine a_iload_n 1 dCourse_answer_0 rfl rfl ?_
  refine a_tableOut (tgt := 61) dCourse_answer_1 (Or.inr (by rw [nI_toInt (by omega)]; omega)) (by decide) ?_
  refine a_iload_n 1 dCourse_answer_61 rfl rfl ?_
  refine a_bipushN (a := 10) dCourse_answer_62 (by decide) ?_
  refine a_icmp_geN (tgt := 73) dCourse_answer_64 (by decide) (by omega) (by omega) (fun _ => ?_) (fun c => False.elim (by omega))
  refine a_aload_n 0 dCourse_answer_73 rfl rfl ?_
  refine a_iload_n 1 dCourse_answer_74 rfl rfl ?_
  refine a_bipushN (a := 10) dCourse_answer_75 (by decide) ?_
  refine a_idivN dCourse_answer_77 (by omega) (by omega) (by omega) ?_
  refine a_iload_n 1 dCourse_answer_78 rfl rfl ?_
  refine a_bipushN (a := 10) dCourse_answer_79 (by decide) ?_
  refine a_iremN dCourse_answer_81 (by omega) (by omega) (by omega) ?_
  refine a_callV (Q' := m_res (some (.int (osF nh s (nI w)))) (cr60 I s.1 s.2.1 s.2.2.1 s.2.2.2.1 s.2.2.2.2.1 s.2.2.2.2.2.1 s.2.2.2.2.2.2.1 s.2.2.2.2.2.2.2.1 s.2.2.2.2.2.2.2.2 p.2 p.1) J R) (as := [.int (nI (w / 10)), .int (nI (w % 10))]) (st := []) dCourse_answer_82 ml2_144 rfl (Nat.le_of_ble_eq_true rfl) ly_60 rfl rfl (by decide) (by omega) (Nat.le_of_ble_eq_true rfl) rfl (Nat.le_refl _) (Nat.le_refl _) (by have h := c_ofHouse (S := S) (d := d) (J := J) (I := I) (R := R) (md := s.1) (ls := s.2.1) (cm := s.2.2.1) (ni := s.2.2.2.1) (le := s.2.2.2.2.1) (sl := s.2.2.2.2.2.1) (dn := s.2.2.2.2.2.2.1) (fa := s.2.2.2.2.2.2.2.1) (id0 := s.2.2.2.2.2.2.2.2) (gr := p.2) (lo := p.1) (x := nI (w / 10)) (b := w % 10) hn hR ho hr hon hRo hh hnh hl hnl (by omega); rw [oh_os hw hw2 hnh] at h; exact h) (m_go ?_)
  show AW _ _ _ _ _ _ _ _ [.int (osF nh s (nI w))] _ _ _ _
  exact a_iret dCourse_answer_85 rfl ⟨rfl, rfl, rfl, rfl⟩
theorem c_answer {S : Nat × (Nat → Int32)} {d n : Nat} {I : mI} {J : mJ} {R : mR} {s : cS} {p : Int32 × Int32} (hn : 122 ≤ n) (hR : m_fin R) {o nh nl : Nat} (ho : o ∈ m_offs) (hr : offR R o) (hon : o + 8 < n) (hRo : R 60 0 = some o) (hh : I o 0 = nI nh) (hnh : nh ≤ 6) (hl : I o 1 = nI nl) (hnl : nl ≤ 10) {x : Int32} : RUN S (d + 2) YCourse_answer [.ref 60, .int x] (ccT I s p) J R n (some (.int (osF nh s x))) (ccT I s p) J R n := by
  by_cases hx : nI 10 ≤ x
  · have h0 : ¬ x < 0 := fun c => absurd (Int32.lt_of_le_of_lt hx c) (by decide)
    obtain ⟨w, hw2, rfl⟩ := nI_of h0
    exact c_answer1 hn hR ho hr hon hRo hh hnh hl hnl ((nI_leI (by decide) hw2).mp hx) hw2
  · exact c_answer0 hn hR ho hr hon hRo hh hnh hl hnl hx
theorem c_S_till1 {S : Nat × (Nat → Int32)} {d n : Nat} {I : mI} {J : mJ} {R : mR} (hn : 122 ≤ n) (hR : m_fin R) {k kw o nh nl : Nat} (h1 : f_of (nI k) (I 3 0) = 1) (hk : k < 2) (hro : R 4 k = some o) (h2 : f_of (nI kw) (I 3 1) = 1) (hk2 : kw < 2) (ho : o ∈ m_offs) (hr : offR R o) (hon : o + 8 < n) (hh : I o 0 = nI nh) (hnh : nh ≤ 6) (hl : I o 1 = nI nl) (hnl : nl ≤ 10) {w : Nat} (hw : w ∈ m_wks) (hwr : wkR R w) (hwn : w + 3 < n) (hrw : R 23 kw = some w) {c : Nat} (hcc : I w 0 = nI c) (hc : c ≤ 40) (hww : WFwc I w c) (hW : WFc I o nl) (hH : WFh (I (o + 2)) nl)  : RUN S (d + 4) YS_till [.ref 0, .int (nI k), .int (nI kw)] I J R n (some (.int (nI (plC I o w nh nl c).1))) (ccT I (plC I o w nh nl c).2.1 (plC I o w nh nl c).2.2) J (m_up R 60 0 (some o)) n := by
  show AW S _ YS_till n n _ 0 [(0, .ref 0), (1, .int (nI k)), (2, .int (nI kw))] [] I J R n
  refine a_aload_n 0 dS_till_0 rfl rfl ?_
  refine a_geta (r := 1) dS_till_1 fl11_10 rfl ly_0 (by omega) (rf_0_0 hR) ?_
  refine a_iload_n 1 dS_till_4 rfl rfl ?_
  refine a_callV (Q' := m_res (some (.ref o)) I J R) (as := [.int (nI k)]) (st := []) dS_till_5 ml11_101 rfl (Nat.le_of_ble_eq_true rfl) ly_1 rfl rfl (by decide) (by omega) (Nat.le_of_ble_eq_true rfl) rfl (Nat.le_refl _) (Nat.le_refl _) (c_Told_officeAt1 hn hR h1 hk hro) (m_go ?_)
  show AW _ _ _ _ _ _ _ _ [.ref o] _ _ _ _
  refine a_astore_n (lv' := [(3, .ref o), (0, .ref 0), (1, .int (nI k)), (2, .int (nI kw))]) dS_till_8 rfl (by decide) rfl ?_
  refine a_aload_n 1 dS_till_9 rfl rfl ?_
  refine a_geta (r := 1) dS_till_10 fl11_10 rfl ly_0 (by omega) (rf_0_0 hR) ?_
  refine a_iload_n 3 dS_till_13 rfl rfl ?_
  refine a_callV (Q' := m_res (some (.ref w)) I J R) (as := [.int (nI kw)]) (st := []) dS_till_14 ml11_119 rfl (Nat.le_of_ble_eq_true rfl) ly_1 rfl rfl (by decide) (by omega) (Nat.le_of_ble_eq_true rfl) rfl (Nat.le_refl _) (Nat.le_refl _) (c_Told_weekAt1 hn hR h2 hk2 hrw) (m_go ?_)
  show AW _ _ _ _ _ _ _ _ [.ref w] _ _ _ _
  refine a_astore (lv' := [(4, .ref w), (3, .ref o), (0, .ref 0), (1, .int (nI k)), (2, .int (nI kw))]) dS_till_17 (by decide) rfl ?_
  refine a_aload_n 1 dS_till_19 rfl rfl ?_
  refine a_ifnull dS_till_20 ?_
  refine a_aload 0 dS_till_23 rfl ?_
  refine a_ifnonnull (tgt := 30) dS_till_25 (by decide) ?_
  refine a_aload_n 2 dS_till_30 rfl rfl ?_
  refine a_geta (r := 60) dS_till_31 fl11_30 rfl ly_0 (by omega) (rf_0_3 hR) ?_
  refine a_aload_n 1 dS_till_34 rfl rfl ?_
  refine a_aload 0 dS_till_35 rfl ?_
  refine a_aload 0 dS_till_37 rfl ?_
  refine a_geti dS_till_39 fl11_127 rfl (wk_l0 hw) (by omega) ?_
  rw [show I w 0 = (nI c) from hcc]
  refine a_callV (Q' := m_res (some (.int (nI (plC I o w nh nl c).1))) (ccT I (plC I o w nh nl c).2.1 (plC I o w nh nl c).2.2) J (m_up R 60 0 (some o))) (as := [.ref o, .ref w, .int (nI c)]) (st := []) dS_till_42 ml11_130 rfl (Nat.le_of_ble_eq_true rfl) ly_60 rfl rfl (by decide) (by omega) (Nat.le_of_ble_eq_true rfl) rfl (Nat.le_refl _) (Nat.le_refl _) (c_run hn hR ho hr hon hh hnh hl hnl hw hwr hwn hcc hc (N := c) (Nat.le_refl _) hww hW hH) (m_go ?_)
  show AW _ _ _ _ _ _ _ _ [.int (nI (plC I o w nh nl c).1)] _ _ _ _
  exact a_iret dS_till_45 rfl ⟨rfl, rfl, rfl, rfl⟩
theorem c_S_state1 {S : Nat × (Nat → Int32)} {d n : Nat} {I : mI} {J : mJ} {R : mR} (hn : 122 ≤ n) (hR : m_fin R) {k kw o nh nl : Nat} (h1 : f_of (nI k) (I 3 0) = 1) (hk : k < 2) (hro : R 4 k = some o) (h2 : f_of (nI kw) (I 3 1) = 1) (hk2 : kw < 2) (ho : o ∈ m_offs) (hr : offR R o) (hon : o + 8 < n) (hh : I o 0 = nI nh) (hnh : nh ≤ 6) (hl : I o 1 = nI nl) (hnl : nl ≤ 10) {w : Nat} (hw : w ∈ m_wks) (hwr : wkR R w) (hwn : w + 3 < n) (hrw : R 23 kw = some w) {c : Nat} (hcc : I w 0 = nI c) (hc : c ≤ 40) (hww : WFwc I w c) (hW : WFc I o nl) (hH : WFh (I (o + 2)) nl) {z t : Int32} (hz : z < 0 ∨ nI c < z)  : RUN S (d + 4) YS_state [.ref 0, .int (nI k), .int (nI kw), .int z, .int t] I J R n (some (.int (-1000))) I J R n := by
  show AW S _ YS_state n n _ 0 [(0, .ref 0), (1, .int (nI k)), (2, .int (nI kw)), (3, .int z), (4, .int t)] [] I J R n
  refine a_aload_n 0 dS_state_0 rfl rfl ?_
  refine a_geta (r := 1) dS_state_1 fl11_10 rfl ly_0 (by omega) (rf_0_0 hR) ?_
  refine a_iload_n 1 dS_state_4 rfl rfl ?_
  refine a_callV (Q' := m_res (some (.ref o)) I J R) (as := [.int (nI k)]) (st := []) dS_state_5 ml11_101 rfl (Nat.le_of_ble_eq_true rfl) ly_1 rfl rfl (by decide) (by omega) (Nat.le_of_ble_eq_true rfl) rfl (Nat.le_refl _) (Nat.le_refl _) (c_Told_officeAt1 hn hR h1 hk hro) (m_go ?_)
  show AW _ _ _ _ _ _ _ _ [.ref o] _ _ _ _
  refine a_astore (lv' := [(5, .ref o), (0, .ref 0), (1, .int (nI k)), (2, .int (nI kw)), (3, .int z), (4, .int t)]) dS_state_8 (by decide) rfl ?_
  refine a_aload_n 1 dS_state_10 rfl rfl ?_
  refine a_geta (r := 1) dS_state_11 fl11_10 rfl ly_0 (by omega) (rf_0_0 hR) ?_
  refine a_iload_n 3 dS_state_14 rfl rfl ?_
  refine a_callV (Q' := m_res (some (.ref w)) I J R) (as := [.int (nI kw)]) (st := []) dS_state_15 ml11_119 rfl (Nat.le_of_ble_eq_true rfl) ly_1 rfl rfl (by decide) (by omega) (Nat.le_of_ble_eq_true rfl) rfl (Nat.le_refl _) (Nat.le_refl _) (c_Told_weekAt1 hn hR h2 hk2 hrw) (m_go ?_)
  show AW _ _ _ _ _ _ _ _ [.ref w] _ _ _ _
  refine a_astore (lv' := [(6, .ref w), (5, .ref o), (0, .ref 0), (1, .int (nI k)), (2, .int (nI kw)), (3, .int z), (4, .int t)]) dS_state_18 (by decide) rfl ?_
  refine a_aload 1 dS_state_20 rfl ?_
  refine a_ifnull dS_state_22 ?_
  refine a_aload 0 dS_state_25 rfl ?_
  refine a_ifnull dS_state_27 ?_
  refine a_iload_n 5 dS_state_30 rfl rfl ?_
  refine a_if_lt (tgt := 43) dS_state_31 (by decide) (fun c31 => ?_) (fun c31 => ?_)
  · refine a_sipush (v := -1000) dS_state_43 (by decide) ?_
    exact a_iret dS_state_46 rfl ⟨rfl, rfl, rfl, rfl⟩
  · refine a_iload_n 5 dS_state_34 rfl rfl ?_
    refine a_aload 0 dS_state_35 rfl ?_
    refine a_geti dS_state_37 fl11_127 rfl (wk_l0 hw) (by omega) ?_
    rw [show I w 0 = (nI c) from hcc]
    refine a_icmp_le (tgt := 47) dS_state_40 (by decide) (fun c40 => ?_) (fun c40 => ?_)
    · exfalso
      rcases hz with h | h
      · exact c31 h
      · exact absurd c40 (Int32.not_le.mpr h)
    · refine a_sipush (v := -1000) dS_state_43 (by decide) ?_
      exact a_iret dS_state_46 rfl ⟨rfl, rfl, rfl, rfl⟩
theorem c_S_state2 {S : Nat × (Nat → Int32)} {d n : Nat} {I : mI} {J : mJ} {R : mR} (hn : 122 ≤ n) (hR : m_fin R) {k kw o nh nl : Nat} (h1 : f_of (nI k) (I 3 0) = 1) (hk : k < 2) (hro : R 4 k = some o) (h2 : f_of (nI kw) (I 3 1) = 1) (hk2 : kw < 2) (ho : o ∈ m_offs) (hr : offR R o) (hon : o + 8 < n) (hh : I o 0 = nI nh) (hnh : nh ≤ 6) (hl : I o 1 = nI nl) (hnl : nl ≤ 10) {w : Nat} (hw : w ∈ m_wks) (hwr : wkR R w) (hwn : w + 3 < n) (hrw : R 23 kw = some w) {c : Nat} (hcc : I w 0 = nI c) (hc : c ≤ 40) (hww : WFwc I w c) (hW : WFc I o nl) (hH : WFh (I (o + 2)) nl) {N : Nat} {t : Int32} (hN : N ≤ c)  : RUN S (d + 4) YS_state [.ref 0, .int (nI k), .int (nI kw), .int (nI N), .int t] I J R n (some (.int (if (plC I o w nh nl N).1 = N then osF nh (plC I o w nh nl N).2.1 t else -1000))) (ccT I (plC I o w nh nl N).2.1 (plC I o w nh nl N).2.2) J (m_up R 60 0 (some o)) n := by
  show AW S _ YS_state n n _ 0 [(0, .ref 0), (1, .int (nI k)), (2, .int (nI kw)), (3, .int (nI N)), (4, .int t)] [] I J R n
  have hple : (plC I o w nh nl N).1 ≤ N := by rw [(plG_F N 0 _ _).1]; exact Nat.le_trans (plF_le N 0 _) (by omega)
  refine a_aload_n 0 dS_state_0 rfl rfl ?_
  refine a_geta (r := 1) dS_state_1 fl11_10 rfl ly_0 (by omega) (rf_0_0 hR) ?_
  refine a_iload_n 1 dS_state_4 rfl rfl ?_
  refine a_callV (Q' := m_res (some (.ref o)) I J R) (as := [.int (nI k)]) (st := []) dS_state_5 ml11_101 rfl (Nat.le_of_ble_eq_true rfl) ly_1 rfl rfl (by decide) (by omega) (Nat.le_of_ble_eq_true rfl) rfl (Nat.le_refl _) (Nat.le_refl _) (c_Told_officeAt1 hn hR h1 hk hro) (m_go ?_)
  show AW _ _ _ _ _ _ _ _ [.ref o] _ _ _ _
  refine a_astore (lv' := [(5, .ref o), (0, .ref 0), (1, .int (nI k)), (2, .int (nI kw)), (3, .int (nI N)), (4, .int t)]) dS_state_8 (by decide) rfl ?_
  refine a_aload_n 1 dS_state_10 rfl rfl ?_
  refine a_geta (r := 1) dS_state_11 fl11_10 rfl ly_0 (by omega) (rf_0_0 hR) ?_
  refine a_iload_n 3 dS_state_14 rfl rfl ?_
  refine a_callV (Q' := m_res (some (.ref w)) I J R) (as := [.int (nI kw)]) (st := []) dS_state_15 ml11_119 rfl (Nat.le_of_ble_eq_true rfl) ly_1 rfl rfl (by decide) (by omega) (Nat.le_of_ble_eq_true rfl) rfl (Nat.le_refl _) (Nat.le_refl _) (c_Told_weekAt1 hn hR h2 hk2 hrw) (m_go ?_)
  show AW _ _ _ _ _ _ _ _ [.ref w] _ _ _ _
  refine a_astore (lv' := [(6, .ref w), (5, .ref o), (0, .ref 0), (1, .int (nI k)), (2, .int (nI kw)), (3, .int (nI N)), (4, .int t)]) dS_state_18 (by decide) rfl ?_
  refine a_aload 1 dS_state_20 rfl ?_
  refine a_ifnull dS_state_22 ?_
  refine a_aload 0 dS_state_25 rfl ?_
  refine a_ifnull dS_state_27 ?_
  refine a_iload_n 5 dS_state_30 rfl rfl ?_
  refine a_if_lt (tgt := 43) dS_state_31 (by decide) (fun c => False.elim (nI_pos (by omega) c)) (fun _ => ?_)
  refine a_iload_n 5 dS_state_34 rfl rfl ?_
  refine a_aload 0 dS_state_35 rfl ?_
  refine a_geti dS_state_37 fl11_127 rfl (wk_l0 hw) (by omega) ?_
  rw [show I w 0 = (nI c) from hcc]
  refine a_icmp_leN (tgt := 47) dS_state_40 (by decide) (by omega) (by omega) (fun _ => ?_) (fun c => False.elim (by omega))
  refine a_aload_n 2 dS_state_47 rfl rfl ?_
  refine a_geta (r := 60) dS_state_48 fl11_30 rfl ly_0 (by omega) (rf_0_3 (hR)) ?_
  refine a_aload 1 dS_state_51 rfl ?_
  refine a_aload 0 dS_state_53 rfl ?_
  refine a_iload_n 5 dS_state_55 rfl rfl ?_
  refine a_callV (Q' := m_res (some (.int (nI (plC I o w nh nl N).1))) (ccT I (plC I o w nh nl N).2.1 (plC I o w nh nl N).2.2) J (m_up R 60 0 (some o))) (as := [.ref o, .ref w, .int (nI N)]) (st := []) dS_state_56 ml11_130 rfl (Nat.le_of_ble_eq_true rfl) ly_60 rfl rfl (by decide) (by omega) (Nat.le_of_ble_eq_true rfl) rfl (Nat.le_refl _) (Nat.le_refl _) (c_run hn hR ho hr hon hh hnh hl hnl hw hwr hwn hcc hc (N := N) hN hww hW hH) (m_go ?_)
  show AW _ _ _ _ _ _ _ _ [.int (nI (plC I o w nh nl N).1)] _ _ _ _
  refine a_iload_n 5 dS_state_59 rfl rfl ?_
  refine a_icmp_geN (tgt := 69) dS_state_60 (by decide) (by omega) (by omega) (fun c60 => ?_) (fun c60 => ?_)
  · refine a_aload_n 2 dS_state_69 rfl rfl ?_
    refine a_geta (r := 60) dS_state_70 fl11_30 rfl ly_0 (by omega) (rf_0_3 (fin_60 hR)) ?_
    refine a_iload 6 dS_state_73 rfl ?_
    refine a_callV (Q' := m_res (some (.int (osF nh (plC I o w nh nl N).2.1 t))) (ccT I (plC I o w nh nl N).2.1 (plC I o w nh nl N).2.2) J (m_up R 60 0 (some o))) (as := [.int t]) (st := []) dS_state_75 ml11_134 rfl (Nat.le_of_ble_eq_true rfl) ly_60 rfl rfl (by decide) (by omega) (Nat.le_of_ble_eq_true rfl) rfl (Nat.le_refl _) (Nat.le_refl _) (c_answer (I := I) (s := (plC I o w nh nl N).2.1) (p := (plC I o w nh nl N).2.2) hn (fin_60 hR) ho (offR_60 ho hr) hon m_up_at hh hnh hl hnl) (m_go ?_)
    show AW _ _ _ _ _ _ _ _ [.int (osF nh (plC I o w nh nl N).2.1 t)] _ _ _ _
    exact a_iret dS_state_78 rfl ⟨by rw [if_pos (show (plC I o w nh nl N).1 = N by omega)], rfl, rfl, rfl⟩
  · refine a_sipush (v := -1000) dS_state_63 (by decide) ?_
    refine a_goto (tgt := 78) dS_state_66 (by decide) ?_
    exact a_iret dS_state_78 rfl ⟨by rw [if_neg (show ¬ (plC I o w nh nl N).1 = N by omega)], rfl, rfl, rfl⟩
def afF (s : cS) (p : Int32 × Int32) (x : Int32) : Int32 := if x = 0 then p.2 else if x = 1 then p.1 else if x = 2 then s.2.2.2.2.2.2.2.1 else if x = 3 then s.2.2.2.2.2.2.2.2 else -1000
theorem c_S_after1 {S : Nat × (Nat → Int32)} {d n : Nat} {I : mI} {J : mJ} {R : mR} (hn : 122 ≤ n) (hR : m_fin R) {k kw o nh nl : Nat} (h1 : f_of (nI k) (I 3 0) = 1) (hk : k < 2) (hro : R 4 k = some o) (h2 : f_of (nI kw) (I 3 1) = 1) (hk2 : kw < 2) (ho : o ∈ m_offs) (hr : offR R o) (hon : o + 8 < n) (hh : I o 0 = nI nh) (hnh : nh ≤ 6) (hl : I o 1 = nI nl) (hnl : nl ≤ 10) {w : Nat} (hw : w ∈ m_wks) (hwr : wkR R w) (hwn : w + 3 < n) (hrw : R 23 kw = some w) {c : Nat} (hcc : I w 0 = nI c) (hc : c ≤ 40) (hww : WFwc I w c) (hW : WFc I o nl) (hH : WFh (I (o + 2)) nl) {x : Int32}  : RUN S (d + 4) YS_after [.ref 0, .int (nI k), .int (nI kw), .int x] I J R n (some (.int (afF (plC I o w nh nl c).2.1 (plC I o w nh nl c).2.2 x))) (ccT I (plC I o w nh nl c).2.1 (plC I o w nh nl c).2.2) J (m_up R 60 0 (some o)) n := by
  show AW S _ YS_after n n _ 0 [(0, .ref 0), (1, .int (nI k)), (2, .int (nI kw)), (3, .int x)] [] I J R n
  refine a_aload_n 0 dS_after_0 rfl rfl ?_
  refine a_geta (r := 1) dS_after_1 fl11_10 rfl ly_0 (by omega) (rf_0_0 hR) ?_
  refine a_iload_n 1 dS_after_4 rfl rfl ?_
  refine a_callV (Q' := m_res (some (.ref o)) I J R) (as := [.int (nI k)]) (st := []) dS_after_5 ml11_101 rfl (Nat.le_of_ble_eq_true rfl) ly_1 rfl rfl (by decide) (by omega) (Nat.le_of_ble_eq_true rfl) rfl (Nat.le_refl _) (Nat.le_refl _) (c_Told_officeAt1 hn hR h1 hk hro) (m_go ?_)
  show AW _ _ _ _ _ _ _ _ [.ref o] _ _ _ _
  refine a_astore (lv' := [(4, .ref o), (0, .ref 0), (1, .int (nI k)), (2, .int (nI kw)), (3, .int x)]) dS_after_8 (by decide) rfl ?_
  refine a_aload_n 1 dS_after_10 rfl rfl ?_
  refine a_geta (r := 1) dS_after_11 fl11_10 rfl ly_0 (by omega) (rf_0_0 hR) ?_
  refine a_iload_n 3 dS_after_14 rfl rfl ?_
  refine a_callV (Q' := m_res (some (.ref w)) I J R) (as := [.int (nI kw)]) (st := []) dS_after_15 ml11_119 rfl (Nat.le_of_ble_eq_true rfl) ly_1 rfl rfl (by decide) (by omega) (Nat.le_of_ble_eq_true rfl) rfl (Nat.le_refl _) (Nat.le_refl _) (c_Told_weekAt1 hn hR h2 hk2 hrw) (m_go ?_)
  show AW _ _ _ _ _ _ _ _ [.ref w] _ _ _ _
  refine a_astore (lv' := [(5, .ref w), (4, .ref o), (0, .ref 0), (1, .int (nI k)), (2, .int (nI kw)), (3, .int x)]) dS_after_18 (by decide) rfl ?_
  refine a_aload 1 dS_after_20 rfl ?_
  refine a_ifnull dS_after_22 ?_
  refine a_aload 0 dS_after_25 rfl ?_
  refine a_ifnonnull (tgt := 34) dS_after_27 (by decide) ?_
  refine a_aload_n 2 dS_after_34 rfl rfl ?_
  refine a_geta (r := 60) dS_after_35 fl11_30 rfl ly_0 (by omega) (rf_0_3 (hR)) ?_
  refine a_aload 1 dS_after_38 rfl ?_
  refine a_aload 0 dS_after_40 rfl ?_
  refine a_aload 0 dS_after_42 rfl ?_
  refine a_geti dS_after_44 fl11_127 rfl (wk_l0 hw) (by omega) ?_
  rw [show I w 0 = (nI c) from hcc]
  refine a_callV (Q' := m_res (some (.int (nI (plC I o w nh nl c).1))) (ccT I (plC I o w nh nl c).2.1 (plC I o w nh nl c).2.2) J (m_up R 60 0 (some o))) (as := [.ref o, .ref w, .int (nI c)]) (st := []) dS_after_47 ml11_130 rfl (Nat.le_of_ble_eq_true rfl) ly_60 rfl rfl (by decide) (by omega) (Nat.le_of_ble_eq_true rfl) rfl (Nat.le_refl _) (Nat.le_refl _) (c_run hn hR ho hr hon hh hnh hl hnl hw hwr hwn hcc hc (N := c) (Nat.le_refl _) hww hW hH) (m_go ?_)
  show AW _ _ _ _ _ _ _ _ [.int (nI (plC I o w nh nl c).1)] _ _ _ _
  refine a_pop dS_after_50 rfl ?_
  refine a_iload_n 5 dS_after_51 rfl rfl ?_
  by_cases hs0 : x = 0
  · refine a_tab (off := 32) (tgt := 84) dS_after_52 hs0 (by decide) (by decide) (by decide) (by decide) ?_
    refine a_aload_n 2 dS_after_84 rfl rfl ?_
    refine a_geta (r := 60) dS_after_85 fl11_30 rfl ly_0 (by omega) (rf_0_3 (fin_60 hR)) ?_
    refine a_geti dS_after_88 fl11_270 rfl ly_60 (by omega) ?_
    rw [show (ccT I (plC I o w nh nl c).2.1 (plC I o w nh nl c).2.2) 60 9 = (plC I o w nh nl c).2.2.2 from rfl]
    exact a_iret dS_after_91 rfl ⟨by unfold afF; rw [if_pos hs0], rfl, rfl, rfl⟩
  by_cases hs1 : x = 1
  · refine a_tab (off := 40) (tgt := 92) dS_after_52 hs1 (by decide) (by decide) (by decide) (by decide) ?_
    refine a_aload_n 2 dS_after_92 rfl rfl ?_
    refine a_geta (r := 60) dS_after_93 fl11_30 rfl ly_0 (by omega) (rf_0_3 (fin_60 hR)) ?_
    refine a_geti dS_after_96 fl11_273 rfl ly_60 (by omega) ?_
    rw [show (ccT I (plC I o w nh nl c).2.1 (plC I o w nh nl c).2.2) 60 10 = (plC I o w nh nl c).2.2.1 from rfl]
    exact a_iret dS_after_99 rfl ⟨by unfold afF; rw [if_neg hs0, if_pos hs1], rfl, rfl, rfl⟩
  by_cases hs2 : x = 2
  · refine a_tab (off := 48) (tgt := 100) dS_after_52 hs2 (by decide) (by decide) (by decide) (by decide) ?_
    refine a_aload_n 2 dS_after_100 rfl rfl ?_
    refine a_geta (r := 60) dS_after_101 fl11_30 rfl ly_0 (by omega) (rf_0_3 (fin_60 hR)) ?_
    refine a_geti dS_after_104 fl11_276 rfl ly_60 (by omega) ?_
    rw [show (ccT I (plC I o w nh nl c).2.1 (plC I o w nh nl c).2.2) 60 11 = (plC I o w nh nl c).2.1.2.2.2.2.2.2.2.1 from rfl]
    exact a_iret dS_after_107 rfl ⟨by unfold afF; rw [if_neg hs0, if_neg hs1, if_pos hs2], rfl, rfl, rfl⟩
  by_cases hs3 : x = 3
  · refine a_tab (off := 56) (tgt := 108) dS_after_52 hs3 (by decide) (by decide) (by decide) (by decide) ?_
    refine a_aload_n 2 dS_after_108 rfl rfl ?_
    refine a_geta (r := 60) dS_after_109 fl11_30 rfl ly_0 (by omega) (rf_0_3 (fin_60 hR)) ?_
    refine a_geti dS_after_112 fl11_279 rfl ly_60 (by omega) ?_
    rw [show (ccT I (plC I o w nh nl c).2.1 (plC I o w nh nl c).2.2) 60 12 = (plC I o w nh nl c).2.1.2.2.2.2.2.2.2.2 from rfl]
    exact a_iret dS_after_115 rfl ⟨by unfold afF; rw [if_neg hs0, if_neg hs1, if_neg hs2, if_pos hs3], rfl, rfl, rfl⟩
  refine a_tableOut (tgt := 116) dS_after_52 (m_swo0_3 hs0 hs1 hs2 hs3) (by decide) ?_
  refine a_sipush (v := -1000) dS_after_116 (by decide) ?_
  exact a_iret dS_after_119 rfl ⟨by unfold afF; rw [if_neg hs0, if_neg hs1, if_neg hs2, if_neg hs3], rfl, rfl, rfl⟩

theorem c_S_till00 {S : Nat × (Nat → Int32)} {d n : Nat} {I : mI} {J : mJ} {R : mR} (hn : 122 ≤ n) (hR : m_fin R) {x y : Int32} (h0 : f_of x (I 3 0) = 0) (h2 : f_of y (I 3 1) = 0)  : RUN S (d + 4) YS_till [.ref 0, .int x, .int y] I J R n (some (.int (-1))) I J R n := by
  show AW S _ YS_till n n _ 0 [(0, .ref 0), (1, .int x), (2, .int y)] [] I J R n
  refine a_aload_n 0 dS_till_0 rfl rfl ?_
  refine a_geta (r := 1) dS_till_1 fl11_10 rfl ly_0 (by omega) (rf_0_0 hR) ?_
  refine a_iload_n 1 dS_till_4 rfl rfl ?_
  refine a_callV (Q' := m_res (some (.null)) I J R) (as := [.int x]) (st := []) dS_till_5 ml11_101 rfl (Nat.le_of_ble_eq_true rfl) ly_1 rfl rfl (by decide) (by omega) (Nat.le_of_ble_eq_true rfl) rfl (Nat.le_refl _) (Nat.le_refl _) (c_Told_officeAt0 hn hR h0) (m_go ?_)
  show AW _ _ _ _ _ _ _ _ [.null] _ _ _ _
  refine a_astore_nN (lv' := [(3, .null), (0, .ref 0), (1, .int x), (2, .int y)]) dS_till_8 rfl (by decide) rfl ?_
  refine a_aload_n 1 dS_till_9 rfl rfl ?_
  refine a_geta (r := 1) dS_till_10 fl11_10 rfl ly_0 (by omega) (rf_0_0 hR) ?_
  refine a_iload_n 3 dS_till_13 rfl rfl ?_
  refine a_callV (Q' := m_res (some (.null)) I J R) (as := [.int y]) (st := []) dS_till_14 ml11_119 rfl (Nat.le_of_ble_eq_true rfl) ly_1 rfl rfl (by decide) (by omega) (Nat.le_of_ble_eq_true rfl) rfl (Nat.le_refl _) (Nat.le_refl _) (c_Told_weekAt0 hn hR h2) (m_go ?_)
  show AW _ _ _ _ _ _ _ _ [.null] _ _ _ _
  refine a_astoreN (lv' := [(4, .null), (3, .null), (0, .ref 0), (1, .int x), (2, .int y)]) dS_till_17 (by decide) rfl ?_
  refine a_aload_nN 1 dS_till_19 rfl rfl ?_
  refine a_ifnullN (tgt := 28) dS_till_20 (by decide) ?_
  refine a_iconst (v := -1) dS_till_28 (by decide) ?_
  exact a_iret dS_till_29 rfl ⟨rfl, rfl, rfl, rfl⟩
theorem c_S_till01 {S : Nat × (Nat → Int32)} {d n : Nat} {I : mI} {J : mJ} {R : mR} (hn : 122 ≤ n) (hR : m_fin R) {x y : Int32} {kw w : Nat} (hy : y = nI kw) (h0 : f_of x (I 3 0) = 0) (h2 : f_of y (I 3 1) = 1) (hk2 : kw < 2) (hrw : R 23 kw = some w)  : RUN S (d + 4) YS_till [.ref 0, .int x, .int y] I J R n (some (.int (-1))) I J R n := by
  show AW S _ YS_till n n _ 0 [(0, .ref 0), (1, .int x), (2, .int y)] [] I J R n
  refine a_aload_n 0 dS_till_0 rfl rfl ?_
  refine a_geta (r := 1) dS_till_1 fl11_10 rfl ly_0 (by omega) (rf_0_0 hR) ?_
  refine a_iload_n 1 dS_till_4 rfl rfl ?_
  refine a_callV (Q' := m_res (some (.null)) I J R) (as := [.int x]) (st := []) dS_till_5 ml11_101 rfl (Nat.le_of_ble_eq_true rfl) ly_1 rfl rfl (by decide) (by omega) (Nat.le_of_ble_eq_true rfl) rfl (Nat.le_refl _) (Nat.le_refl _) (c_Told_officeAt0 hn hR h0) (m_go ?_)
  show AW _ _ _ _ _ _ _ _ [.null] _ _ _ _
  refine a_astore_nN (lv' := [(3, .null), (0, .ref 0), (1, .int x), (2, .int y)]) dS_till_8 rfl (by decide) rfl ?_
  refine a_aload_n 1 dS_till_9 rfl rfl ?_
  refine a_geta (r := 1) dS_till_10 fl11_10 rfl ly_0 (by omega) (rf_0_0 hR) ?_
  refine a_iload_n 3 dS_till_13 rfl rfl ?_
  refine a_callV (Q' := m_res (some (.ref w)) I J R) (as := [.int y]) (st := []) dS_till_14 ml11_119 rfl (Nat.le_of_ble_eq_true rfl) ly_1 rfl rfl (by decide) (by omega) (Nat.le_of_ble_eq_true rfl) rfl (Nat.le_refl _) (Nat.le_refl _) (by subst hy; exact c_Told_weekAt1 hn hR h2 hk2 hrw) (m_go ?_)
  show AW _ _ _ _ _ _ _ _ [.ref w] _ _ _ _
  refine a_astore (lv' := [(4, .ref w), (3, .null), (0, .ref 0), (1, .int x), (2, .int y)]) dS_till_17 (by decide) rfl ?_
  refine a_aload_nN 1 dS_till_19 rfl rfl ?_
  refine a_ifnullN (tgt := 28) dS_till_20 (by decide) ?_
  refine a_iconst (v := -1) dS_till_28 (by decide) ?_
  exact a_iret dS_till_29 rfl ⟨rfl, rfl, rfl, rfl⟩
theorem c_S_till10 {S : Nat × (Nat → Int32)} {d n : Nat} {I : mI} {J : mJ} {R : mR} (hn : 122 ≤ n) (hR : m_fin R) {x y : Int32} {k o : Nat} (hx : x = nI k) (h0 : f_of x (I 3 0) = 1) (hk : k < 2) (hro : R 4 k = some o) (h2 : f_of y (I 3 1) = 0)  : RUN S (d + 4) YS_till [.ref 0, .int x, .int y] I J R n (some (.int (-1))) I J R n := by
  show AW S _ YS_till n n _ 0 [(0, .ref 0), (1, .int x), (2, .int y)] [] I J R n
  refine a_aload_n 0 dS_till_0 rfl rfl ?_
  refine a_geta (r := 1) dS_till_1 fl11_10 rfl ly_0 (by omega) (rf_0_0 hR) ?_
  refine a_iload_n 1 dS_till_4 rfl rfl ?_
  refine a_callV (Q' := m_res (some (.ref o)) I J R) (as := [.int x]) (st := []) dS_till_5 ml11_101 rfl (Nat.le_of_ble_eq_true rfl) ly_1 rfl rfl (by decide) (by omega) (Nat.le_of_ble_eq_true rfl) rfl (Nat.le_refl _) (Nat.le_refl _) (by subst hx; exact c_Told_officeAt1 hn hR h0 hk hro) (m_go ?_)
  show AW _ _ _ _ _ _ _ _ [.ref o] _ _ _ _
  refine a_astore_n (lv' := [(3, .ref o), (0, .ref 0), (1, .int x), (2, .int y)]) dS_till_8 rfl (by decide) rfl ?_
  refine a_aload_n 1 dS_till_9 rfl rfl ?_
  refine a_geta (r := 1) dS_till_10 fl11_10 rfl ly_0 (by omega) (rf_0_0 hR) ?_
  refine a_iload_n 3 dS_till_13 rfl rfl ?_
  refine a_callV (Q' := m_res (some (.null)) I J R) (as := [.int y]) (st := []) dS_till_14 ml11_119 rfl (Nat.le_of_ble_eq_true rfl) ly_1 rfl rfl (by decide) (by omega) (Nat.le_of_ble_eq_true rfl) rfl (Nat.le_refl _) (Nat.le_refl _) (c_Told_weekAt0 hn hR h2) (m_go ?_)
  show AW _ _ _ _ _ _ _ _ [.null] _ _ _ _
  refine a_astoreN (lv' := [(4, .null), (3, .ref o), (0, .ref 0), (1, .int x), (2, .int y)]) dS_till_17 (by decide) rfl ?_
  refine a_aload_n 1 dS_till_19 rfl rfl ?_
  refine a_ifnull dS_till_20 ?_
  refine a_aloadN 0 dS_till_23 rfl ?_
  refine a_ifnonnullN dS_till_25 ?_
  refine a_iconst (v := -1) dS_till_28 (by decide) ?_
  exact a_iret dS_till_29 rfl ⟨rfl, rfl, rfl, rfl⟩

theorem c_S_state00 {S : Nat × (Nat → Int32)} {d n : Nat} {I : mI} {J : mJ} {R : mR} (hn : 122 ≤ n) (hR : m_fin R) {x y : Int32} {z t : Int32} (h0 : f_of x (I 3 0) = 0) (h2 : f_of y (I 3 1) = 0)  : RUN S (d + 4) YS_state [.ref 0, .int x, .int y, .int z, .int t] I J R n (some (.int (-1000))) I J R n := by
  show AW S _ YS_state n n _ 0 [(0, .ref 0), (1, .int x), (2, .int y), (3, .int z), (4, .int t)] [] I J R n
  refine a_aload_n 0 dS_state_0 rfl rfl ?_
  refine a_geta (r := 1) dS_state_1 fl11_10 rfl ly_0 (by omega) (rf_0_0 hR) ?_
  refine a_iload_n 1 dS_state_4 rfl rfl ?_
  refine a_callV (Q' := m_res (some (.null)) I J R) (as := [.int x]) (st := []) dS_state_5 ml11_101 rfl (Nat.le_of_ble_eq_true rfl) ly_1 rfl rfl (by decide) (by omega) (Nat.le_of_ble_eq_true rfl) rfl (Nat.le_refl _) (Nat.le_refl _) (c_Told_officeAt0 hn hR h0) (m_go ?_)
  show AW _ _ _ _ _ _ _ _ [.null] _ _ _ _
  refine a_astoreN (lv' := [(5, .null), (0, .ref 0), (1, .int x), (2, .int y), (3, .int z), (4, .int t)]) dS_state_8 (by decide) rfl ?_
  refine a_aload_n 1 dS_state_10 rfl rfl ?_
  refine a_geta (r := 1) dS_state_11 fl11_10 rfl ly_0 (by omega) (rf_0_0 hR) ?_
  refine a_iload_n 3 dS_state_14 rfl rfl ?_
  refine a_callV (Q' := m_res (some (.null)) I J R) (as := [.int y]) (st := []) dS_state_15 ml11_119 rfl (Nat.le_of_ble_eq_true rfl) ly_1 rfl rfl (by decide) (by omega) (Nat.le_of_ble_eq_true rfl) rfl (Nat.le_refl _) (Nat.le_refl _) (c_Told_weekAt0 hn hR h2) (m_go ?_)
  show AW _ _ _ _ _ _ _ _ [.null] _ _ _ _
  refine a_astoreN (lv' := [(6, .null), (5, .null), (0, .ref 0), (1, .int x), (2, .int y), (3, .int z), (4, .int t)]) dS_state_18 (by decide) rfl ?_
  refine a_aloadN 1 dS_state_20 rfl ?_
  refine a_ifnullN (tgt := 43) dS_state_22 (by decide) ?_
  refine a_sipush (v := -1000) dS_state_43 (by decide) ?_
  exact a_iret dS_state_46 rfl ⟨rfl, rfl, rfl, rfl⟩
theorem c_S_state01 {S : Nat × (Nat → Int32)} {d n : Nat} {I : mI} {J : mJ} {R : mR} (hn : 122 ≤ n) (hR : m_fin R) {x y : Int32} {z t : Int32} {kw w : Nat} (hy : y = nI kw) (h0 : f_of x (I 3 0) = 0) (h2 : f_of y (I 3 1) = 1) (hk2 : kw < 2) (hrw : R 23 kw = some w)  : RUN S (d + 4) YS_state [.ref 0, .int x, .int y, .int z, .int t] I J R n (some (.int (-1000))) I J R n := by
  show AW S _ YS_state n n _ 0 [(0, .ref 0), (1, .int x), (2, .int y), (3, .int z), (4, .int t)] [] I J R n
  refine a_aload_n 0 dS_state_0 rfl rfl ?_
  refine a_geta (r := 1) dS_state_1 fl11_10 rfl ly_0 (by omega) (rf_0_0 hR) ?_
  refine a_iload_n 1 dS_state_4 rfl rfl ?_
  refine a_callV (Q' := m_res (some (.null)) I J R) (as := [.int x]) (st := []) dS_state_5 ml11_101 rfl (Nat.le_of_ble_eq_true rfl) ly_1 rfl rfl (by decide) (by omega) (Nat.le_of_ble_eq_true rfl) rfl (Nat.le_refl _) (Nat.le_refl _) (c_Told_officeAt0 hn hR h0) (m_go ?_)
  show AW _ _ _ _ _ _ _ _ [.null] _ _ _ _
  refine a_astoreN (lv' := [(5, .null), (0, .ref 0), (1, .int x), (2, .int y), (3, .int z), (4, .int t)]) dS_state_8 (by decide) rfl ?_
  refine a_aload_n 1 dS_state_10 rfl rfl ?_
  refine a_geta (r := 1) dS_state_11 fl11_10 rfl ly_0 (by omega) (rf_0_0 hR) ?_
  refine a_iload_n 3 dS_state_14 rfl rfl ?_
  refine a_callV (Q' := m_res (some (.ref w)) I J R) (as := [.int y]) (st := []) dS_state_15 ml11_119 rfl (Nat.le_of_ble_eq_true rfl) ly_1 rfl rfl (by decide) (by omega) (Nat.le_of_ble_eq_true rfl) rfl (Nat.le_refl _) (Nat.le_refl _) (by subst hy; exact c_Told_weekAt1 hn hR h2 hk2 hrw) (m_go ?_)
  show AW _ _ _ _ _ _ _ _ [.ref w] _ _ _ _
  refine a_astore (lv' := [(6, .ref w), (5, .null), (0, .ref 0), (1, .int x), (2, .int y), (3, .int z), (4, .int t)]) dS_state_18 (by decide) rfl ?_
  refine a_aloadN 1 dS_state_20 rfl ?_
  refine a_ifnullN (tgt := 43) dS_state_22 (by decide) ?_
  refine a_sipush (v := -1000) dS_state_43 (by decide) ?_
  exact a_iret dS_state_46 rfl ⟨rfl, rfl, rfl, rfl⟩
theorem c_S_state10 {S : Nat × (Nat → Int32)} {d n : Nat} {I : mI} {J : mJ} {R : mR} (hn : 122 ≤ n) (hR : m_fin R) {x y : Int32} {z t : Int32} {k o : Nat} (hx : x = nI k) (h0 : f_of x (I 3 0) = 1) (hk : k < 2) (hro : R 4 k = some o) (h2 : f_of y (I 3 1) = 0)  : RUN S (d + 4) YS_state [.ref 0, .int x, .int y, .int z, .int t] I J R n (some (.int (-1000))) I J R n := by
  show AW S _ YS_state n n _ 0 [(0, .ref 0), (1, .int x), (2, .int y), (3, .int z), (4, .int t)] [] I J R n
  refine a_aload_n 0 dS_state_0 rfl rfl ?_
  refine a_geta (r := 1) dS_state_1 fl11_10 rfl ly_0 (by omega) (rf_0_0 hR) ?_
  refine a_iload_n 1 dS_state_4 rfl rfl ?_
  refine a_callV (Q' := m_res (some (.ref o)) I J R) (as := [.int x]) (st := []) dS_state_5 ml11_101 rfl (Nat.le_of_ble_eq_true rfl) ly_1 rfl rfl (by decide) (by omega) (Nat.le_of_ble_eq_true rfl) rfl (Nat.le_refl _) (Nat.le_refl _) (by subst hx; exact c_Told_officeAt1 hn hR h0 hk hro) (m_go ?_)
  show AW _ _ _ _ _ _ _ _ [.ref o] _ _ _ _
  refine a_astore (lv' := [(5, .ref o), (0, .ref 0), (1, .int x), (2, .int y), (3, .int z), (4, .int t)]) dS_state_8 (by decide) rfl ?_
  refine a_aload_n 1 dS_state_10 rfl rfl ?_
  refine a_geta (r := 1) dS_state_11 fl11_10 rfl ly_0 (by omega) (rf_0_0 hR) ?_
  refine a_iload_n 3 dS_state_14 rfl rfl ?_
  refine a_callV (Q' := m_res (some (.null)) I J R) (as := [.int y]) (st := []) dS_state_15 ml11_119 rfl (Nat.le_of_ble_eq_true rfl) ly_1 rfl rfl (by decide) (by omega) (Nat.le_of_ble_eq_true rfl) rfl (Nat.le_refl _) (Nat.le_refl _) (c_Told_weekAt0 hn hR h2) (m_go ?_)
  show AW _ _ _ _ _ _ _ _ [.null] _ _ _ _
  refine a_astoreN (lv' := [(6, .null), (5, .ref o), (0, .ref 0), (1, .int x), (2, .int y), (3, .int z), (4, .int t)]) dS_state_18 (by decide) rfl ?_
  refine a_aload 1 dS_state_20 rfl ?_
  refine a_ifnull dS_state_22 ?_
  refine a_aloadN 0 dS_state_25 rfl ?_
  refine a_ifnullN (tgt := 43) dS_state_27 (by decide) ?_
  refine a_sipush (v := -1000) dS_state_43 (by decide) ?_
  exact a_iret dS_state_46 rfl ⟨rfl, rfl, rfl, rfl⟩

theorem c_S_after00 {S : Nat × (Nat → Int32)} {d n : Nat} {I : mI} {J : mJ} {R : mR} (hn : 122 ≤ n) (hR : m_fin R) {x y : Int32} {z : Int32} (h0 : f_of x (I 3 0) = 0) (h2 : f_of y (I 3 1) = 0)  : RUN S (d + 4) YS_after [.ref 0, .int x, .int y, .int z] I J R n (some (.int (-1000))) I J R n := by
  show AW S _ YS_after n n _ 0 [(0, .ref 0), (1, .int x), (2, .int y), (3, .int z)] [] I J R n
  refine a_aload_n 0 dS_after_0 rfl rfl ?_
  refine a_geta (r := 1) dS_after_1 fl11_10 rfl ly_0 (by omega) (rf_0_0 hR) ?_
  refine a_iload_n 1 dS_after_4 rfl rfl ?_
  refine a_callV (Q' := m_res (some (.null)) I J R) (as := [.int x]) (st := []) dS_after_5 ml11_101 rfl (Nat.le_of_ble_eq_true rfl) ly_1 rfl rfl (by decide) (by omega) (Nat.le_of_ble_eq_true rfl) rfl (Nat.le_refl _) (Nat.le_refl _) (c_Told_officeAt0 hn hR h0) (m_go ?_)
  show AW _ _ _ _ _ _ _ _ [.null] _ _ _ _
  refine a_astoreN (lv' := [(4, .null), (0, .ref 0), (1, .int x), (2, .int y), (3, .int z)]) dS_after_8 (by decide) rfl ?_
  refine a_aload_n 1 dS_after_10 rfl rfl ?_
  refine a_geta (r := 1) dS_after_11 fl11_10 rfl ly_0 (by omega) (rf_0_0 hR) ?_
  refine a_iload_n 3 dS_after_14 rfl rfl ?_
  refine a_callV (Q' := m_res (some (.null)) I J R) (as := [.int y]) (st := []) dS_after_15 ml11_119 rfl (Nat.le_of_ble_eq_true rfl) ly_1 rfl rfl (by decide) (by omega) (Nat.le_of_ble_eq_true rfl) rfl (Nat.le_refl _) (Nat.le_refl _) (c_Told_weekAt0 hn hR h2) (m_go ?_)
  show AW _ _ _ _ _ _ _ _ [.null] _ _ _ _
  refine a_astoreN (lv' := [(5, .null), (4, .null), (0, .ref 0), (1, .int x), (2, .int y), (3, .int z)]) dS_after_18 (by decide) rfl ?_
  refine a_aloadN 1 dS_after_20 rfl ?_
  refine a_ifnullN (tgt := 30) dS_after_22 (by decide) ?_
  refine a_sipush (v := -1000) dS_after_30 (by decide) ?_
  exact a_iret dS_after_33 rfl ⟨rfl, rfl, rfl, rfl⟩
theorem c_S_after01 {S : Nat × (Nat → Int32)} {d n : Nat} {I : mI} {J : mJ} {R : mR} (hn : 122 ≤ n) (hR : m_fin R) {x y : Int32} {z : Int32} {kw w : Nat} (hy : y = nI kw) (h0 : f_of x (I 3 0) = 0) (h2 : f_of y (I 3 1) = 1) (hk2 : kw < 2) (hrw : R 23 kw = some w)  : RUN S (d + 4) YS_after [.ref 0, .int x, .int y, .int z] I J R n (some (.int (-1000))) I J R n := by
  show AW S _ YS_after n n _ 0 [(0, .ref 0), (1, .int x), (2, .int y), (3, .int z)] [] I J R n
  refine a_aload_n 0 dS_after_0 rfl rfl ?_
  refine a_geta (r := 1) dS_after_1 fl11_10 rfl ly_0 (by omega) (rf_0_0 hR) ?_
  refine a_iload_n 1 dS_after_4 rfl rfl ?_
  refine a_callV (Q' := m_res (some (.null)) I J R) (as := [.int x]) (st := []) dS_after_5 ml11_101 rfl (Nat.le_of_ble_eq_true rfl) ly_1 rfl rfl (by decide) (by omega) (Nat.le_of_ble_eq_true rfl) rfl (Nat.le_refl _) (Nat.le_refl _) (c_Told_officeAt0 hn hR h0) (m_go ?_)
  show AW _ _ _ _ _ _ _ _ [.null] _ _ _ _
  refine a_astoreN (lv' := [(4, .null), (0, .ref 0), (1, .int x), (2, .int y), (3, .int z)]) dS_after_8 (by decide) rfl ?_
  refine a_aload_n 1 dS_after_10 rfl rfl ?_
  refine a_geta (r := 1) dS_after_11 fl11_10 rfl ly_0 (by omega) (rf_0_0 hR) ?_
  refine a_iload_n 3 dS_after_14 rfl rfl ?_
  refine a_callV (Q' := m_res (some (.ref w)) I J R) (as := [.int y]) (st := []) dS_after_15 ml11_119 rfl (Nat.le_of_ble_eq_true rfl) ly_1 rfl rfl (by decide) (by omega) (Nat.le_of_ble_eq_true rfl) rfl (Nat.le_refl _) (Nat.le_refl _) (by subst hy; exact c_Told_weekAt1 hn hR h2 hk2 hrw) (m_go ?_)
  show AW _ _ _ _ _ _ _ _ [.ref w] _ _ _ _
  refine a_astore (lv' := [(5, .ref w), (4, .null), (0, .ref 0), (1, .int x), (2, .int y), (3, .int z)]) dS_after_18 (by decide) rfl ?_
  refine a_aloadN 1 dS_after_20 rfl ?_
  refine a_ifnullN (tgt := 30) dS_after_22 (by decide) ?_
  refine a_sipush (v := -1000) dS_after_30 (by decide) ?_
  exact a_iret dS_after_33 rfl ⟨rfl, rfl, rfl, rfl⟩
theorem c_S_after10 {S : Nat × (Nat → Int32)} {d n : Nat} {I : mI} {J : mJ} {R : mR} (hn : 122 ≤ n) (hR : m_fin R) {x y : Int32} {z : Int32} {k o : Nat} (hx : x = nI k) (h0 : f_of x (I 3 0) = 1) (hk : k < 2) (hro : R 4 k = some o) (h2 : f_of y (I 3 1) = 0)  : RUN S (d + 4) YS_after [.ref 0, .int x, .int y, .int z] I J R n (some (.int (-1000))) I J R n := by
  show AW S _ YS_after n n _ 0 [(0, .ref 0), (1, .int x), (2, .int y), (3, .int z)] [] I J R n
  refine a_aload_n 0 dS_after_0 rfl rfl ?_
  refine a_geta (r := 1) dS_after_1 fl11_10 rfl ly_0 (by omega) (rf_0_0 hR) ?_
  refine a_iload_n 1 dS_after_4 rfl rfl ?_
  refine a_callV (Q' := m_res (some (.ref o)) I J R) (as := [.int x]) (st := []) dS_after_5 ml11_101 rfl (Nat.le_of_ble_eq_true rfl) ly_1 rfl rfl (by decide) (by omega) (Nat.le_of_ble_eq_true rfl) rfl (Nat.le_refl _) (Nat.le_refl _) (by subst hx; exact c_Told_officeAt1 hn hR h0 hk hro) (m_go ?_)
  show AW _ _ _ _ _ _ _ _ [.ref o] _ _ _ _
  refine a_astore (lv' := [(4, .ref o), (0, .ref 0), (1, .int x), (2, .int y), (3, .int z)]) dS_after_8 (by decide) rfl ?_
  refine a_aload_n 1 dS_after_10 rfl rfl ?_
  refine a_geta (r := 1) dS_after_11 fl11_10 rfl ly_0 (by omega) (rf_0_0 hR) ?_
  refine a_iload_n 3 dS_after_14 rfl rfl ?_
  refine a_callV (Q' := m_res (some (.null)) I J R) (as := [.int y]) (st := []) dS_after_15 ml11_119 rfl (Nat.le_of_ble_eq_true rfl) ly_1 rfl rfl (by decide) (by omega) (Nat.le_of_ble_eq_true rfl) rfl (Nat.le_refl _) (Nat.le_refl _) (c_Told_weekAt0 hn hR h2) (m_go ?_)
  show AW _ _ _ _ _ _ _ _ [.null] _ _ _ _
  refine a_astoreN (lv' := [(5, .null), (4, .ref o), (0, .ref 0), (1, .int x), (2, .int y), (3, .int z)]) dS_after_18 (by decide) rfl ?_
  refine a_aload 1 dS_after_20 rfl ?_
  refine a_ifnull dS_after_22 ?_
  refine a_aloadN 0 dS_after_25 rfl ?_
  refine a_ifnonnullN dS_after_27 ?_
  refine a_sipush (v := -1000) dS_after_30 (by decide) ?_
  exact a_iret dS_after_33 rfl ⟨rfl, rfl, rfl, rfl⟩
