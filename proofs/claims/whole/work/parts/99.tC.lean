def tq1 (I : mI) (J : mJ) (R : mR) (len p : Nat) (x : Nat × Nat) (gh gl g : Int32) (D A : Nat → Int32) (v : Option Value) (I2 : mI) (J2 : mJ) (R2 : mR) : Prop :=
  v = some (.int 1) ∧ J2 = m_up J 95 14 (tkW (I 96) len p) ∧ R2 = R ∧ ∃ F', RS (I 96) len p x gh gl g F' ∧ I2 = mRd I F' D A
def tq0 (I : mI) (J : mJ) (R : mR) (b : Nat) (D A : Nat → Int32) (v : Option Value) (I2 : mI) (J2 : mJ) (R2 : mR) : Prop :=
  v = some (.int 0) ∧ (∃ w, J2 = m_up J 95 14 w) ∧ R2 = R ∧ ∃ F', F' 15 = nI b ∧ I2 = mRd I F' D A
theorem r_takeBut0 {S : Nat × (Nat → Int32)} {d n : Nat} {I : mI} {J : mJ} {R : mR} (hn : 122 ≤ n) (hR : m_fin R) {len : Nat} (hl6 : len ≤ 600) (hby : byT (I 96) len) {p : Nat} (hp : p ≤ len) {x : Nat × Nat} {gh gl g : Int32} {F D A : Nat → Int32} (hS : RS (I 96) len p x gh gl g F) {w : Int64} {k lo hi : Nat} {but : Int32} (h : ¬ tkS (I 96) len p = 2) : AW S (d + 2) YM_takeBut n n (tq0 I J R (tkB (I 96) len p) D A) 0 [(0, .ref 95), (1, .int (nI k)), (2, .int (nI lo)), (3, .int (nI hi)), (4, .int but)] [] (m_row (m_row (m_row I 95 F) 104 D) 105 A) (m_up J 95 14 w) R n := by
  have hz : rsS (tkS (I 96) len p) ≠ 3 := fun q => h (rsS_3.mp q)
  have hz4 := rsS_le (s := tkS (I 96) len p)
  refine a_aload_n 0 dM_takeBut_0 rfl rfl ?_
  refine a_geti dM_takeBut_1 fl12_127 rfl ly_95 (by omega) ?_
  rw [show (m_row (m_row (m_row I 95 F) 104 D) 105 A) 95 12 = (nI (rsS (tkS (I 96) len p))) from hS.h12]
  refine a_iconstN (a := 3) dM_takeBut_4 (by decide) ?_
  refine a_icmp_eqN (tgt := 13) dM_takeBut_5 (by decide) (by omega) (by omega) (fun c => False.elim (by omega)) (fun _ => ?_)
  refine a_aload_n 0 dM_takeBut_8 rfl rfl ?_
  refine a_callV (Q' := m_res (some (.int 0)) (mRd I (va_up F 15 (F 11)) D A) (m_up J 95 14 w) R) (as := []) (st := []) dM_takeBut_9 ml12_142 rfl (Nat.le_of_ble_eq_true rfl) ly_95 rfl rfl (by decide) (by omega) (Nat.le_of_ble_eq_true rfl) rfl (Nat.le_refl _) (Nat.le_refl _) (c_fails hn hR) (m_go ?_)
  show AW _ _ _ _ _ _ _ _ [.int 0] _ _ _ _
  exact a_zret dM_takeBut_12 rfl (by rfl) ⟨rfl, ⟨w, rfl⟩, rfl, _, hS.h11, rfl⟩
theorem r_takeBut1 {S : Nat × (Nat → Int32)} {d n : Nat} {I : mI} {J : mJ} {R : mR} (hn : 122 ≤ n) (hR : m_fin R) {len : Nat} (hl6 : len ≤ 600) (hby : byT (I 96) len) {p : Nat} (hp : p ≤ len) {x : Nat × Nat} {gh gl g : Int32} {F D A : Nat → Int32} (hS : RS (I 96) len p x gh gl g F) {w : Int64} {k lo hi : Nat} {but : Int32} (hk : k < 3) (hlo : lo < 100) (hhi : hi < 100) (h : tkS (I 96) len p = 2) : AW S (d + 2) YM_takeBut n n (tq1 I J R len (tkE (I 96) len p) (s1 x (bdB (vN (I 96) len p) lo hi || decide (nI (vN (I 96) len p) = but)) (2, (tkB (I 96) len p))) gh gl (if (bdB (vN (I 96) len p) lo hi || decide (nI (vN (I 96) len p) = but)) = true then 0 else g) D (va_up A k (nI (vN (I 96) len p)))) 0 [(0, .ref 95), (1, .int (nI k)), (2, .int (nI lo)), (3, .int (nI hi)), (4, .int but)] [] (m_row (m_row (m_row I 95 F) 104 D) 105 A) (m_up J 95 14 w) R n := by
  have hb := tkB_le (T := I 96) hp
  have he := tkE_le (T := I 96) hp
  have hbe := tkE_lt (T := I 96) hp (tk_dg h).1
  have hv := (vN_of hp h).1
  have h12 : F 12 = nI 3 := by rw [hS.h12, rsS_3.mpr h]
  have h13 := hS.h13 h
  have fi := f_in_bd hv hlo hhi
  have bq : (bdB (vN (I 96) len p) lo hi || decide (nI (vN (I 96) len p) = but)) = true → tq1 I J R len (tkE (I 96) len p) (s1 x (bdB (vN (I 96) len p) lo hi || decide (nI (vN (I 96) len p) = but)) (2, (tkB (I 96) len p))) gh gl (if (bdB (vN (I 96) len p) lo hi || decide (nI (vN (I 96) len p) = but)) = true then 0 else g) D (va_up A k (nI (vN (I 96) len p))) (some (.int 1)) (mRd I (tkG (I 96) len (tkE (I 96) len p) (va_up (ltF x F 2 (tkB (I 96) len p)) 22 (nI 0))) D (va_up A k (nI (vN (I 96) len p)))) (m_up J 95 14 (tkW (I 96) len (tkE (I 96) len p))) R := fun hc => by
    have l := ltF_s (F := F) (q := (tkB (I 96) len p)) hS.f5 (show 2 < 5 by decide) hS.h16 hS.h17
    rw [hc, if_pos rfl]
    exact ⟨rfl, rfl, rfl, _, RS_tk (F := (va_up (ltF x F 2 (tkB (I 96) len p)) 22 (nI 0))) hby he.2 ((ltF_o (by decide) (by decide)).trans hS.h10) l.1 l.2.1 l.2.2 (s1_lt (fun z => Nat.lt_of_lt_of_le (hS.hlp z) (Nat.le_trans hb.1 he.1)) hbe) ((ltF_o (by decide) (by decide)).trans hS.h20) ((ltF_o (by decide) (by decide)).trans hS.h21) rfl, rfl⟩
  by_cases c1 : bdB (vN (I 96) len p) lo hi = true
  · have hc : (bdB (vN (I 96) len p) lo hi || decide (nI (vN (I 96) len p) = but)) = true := by rw [c1]; rfl
    refine a_aload_n 0 dM_takeBut_0 rfl rfl ?_
    refine a_geti dM_takeBut_1 fl12_127 rfl ly_95 (by omega) ?_
    rw [show (m_row (m_row (m_row I 95 F) 104 D) 105 A) 95 12 = (nI 3) from h12]
    refine a_iconstN (a := 3) dM_takeBut_4 (by decide) ?_
    refine a_icmp_eqN (tgt := 13) dM_takeBut_5 (by decide) (by omega) (by omega) (fun _ => ?_) (fun c => False.elim (by omega))
    refine a_aload_n 0 dM_takeBut_13 rfl rfl ?_
    refine a_geta (r := 105) dM_takeBut_14 fl12_38 rfl ly_95 (by omega) (rf_95_19 hR) ?_
    refine a_iload_n 1 dM_takeBut_17 rfl rfl ?_
    refine a_aload_n 0 dM_takeBut_18 rfl rfl ?_
    refine a_geti dM_takeBut_19 fl12_130 rfl ly_95 (by omega) ?_
    rw [show (m_row (m_row (m_row I 95 F) 104 D) 105 A) 95 13 = (nI (vN (I 96) len p)) from h13]
    refine a_iastN (a := k) dM_takeBut_22 ly_105 (by omega) (by omega) (by decide) ?_
    rw [show m_up (m_row (m_row (m_row I 95 F) 104 D) 105 A) 105 k (nI (vN (I 96) len p)) = (m_row (m_row (m_row I 95 F) 104 D) 105 (va_up A k (nI (vN (I 96) len p)))) from (by rw [m_up_r])]
    refine a_aload_n 0 dM_takeBut_23 rfl rfl ?_
    refine a_geti dM_takeBut_24 fl12_130 rfl ly_95 (by omega) ?_
    rw [show (m_row (m_row (m_row I 95 F) 104 D) 105 (va_up A k (nI (vN (I 96) len p)))) 95 13 = (nI (vN (I 96) len p)) from h13]
    refine a_iload_n 2 dM_takeBut_27 rfl rfl ?_
    refine a_iload_n 3 dM_takeBut_28 rfl rfl ?_
    refine a_callS (Q' := m_res (some (.int 0)) (m_row (m_row (m_row I 95 F) 104 D) 105 (va_up A k (nI (vN (I 96) len p)))) (m_up J 95 14 w) R) (as := [.int (nI (vN (I 96) len p)), .int (nI lo), .int (nI hi)]) (st := []) dM_takeBut_29 ml12_102 rfl (Nat.le_of_ble_eq_true rfl) (Nat.le_of_ble_eq_true rfl) rfl (Nat.le_refl _) (Nat.le_refl _) (c_M_inE (fi.trans (if_pos c1))) (m_go ?_)
    show AW _ _ _ _ _ _ _ _ [.int 0] _ _ _ _
    refine a_if_eq (tgt := 44) dM_takeBut_32 (by decide) (fun _ => ?_) (fun c => False.elim (c rfl))
    refine a_aload_n 0 dM_takeBut_44 rfl rfl ?_
    refine a_iconstN (a := 2) dM_takeBut_45 (by decide) ?_
    refine a_aload_n 0 dM_takeBut_46 rfl rfl ?_
    refine a_geti dM_takeBut_47 fl12_120 rfl ly_95 (by omega) ?_
    rw [show (m_row (m_row (m_row I 95 F) 104 D) 105 (va_up A k (nI (vN (I 96) len p)))) 95 11 = (nI (tkB (I 96) len p)) from hS.h11]
    refine a_callV (Q' := m_res none (mRd I (ltF x F 2 (tkB (I 96) len p)) D (va_up A k (nI (vN (I 96) len p)))) (m_up J 95 14 w) R) (as := [.int (nI 2), .int (nI (tkB (I 96) len p))]) (st := []) dM_takeBut_50 ml12_146 rfl (Nat.le_of_ble_eq_true rfl) ly_95 rfl rfl (by decide) (by omega) (Nat.le_of_ble_eq_true rfl) rfl (Nat.le_refl _) (Nat.le_refl _) (c_later (S := S) (d := d + 1) (n := n) (F := F) (D := D) (A := (va_up A k (nI (vN (I 96) len p)))) hn hR hS.f5 hS.h16 hS.h17 (by omega) (fun z => Nat.lt_of_lt_of_le (hS.hlp z) hb.1)) (m_go ?_)
    show AW _ _ _ _ _ _ _ _ [] _ _ _ _
    show AW _ _ _ _ _ _ _ _ [] (m_row (m_row (m_row I 95 (ltF x F 2 (tkB (I 96) len p))) 104 D) 105 (va_up A k (nI (vN (I 96) len p)))) _ _ _
    refine a_aload_n 0 dM_takeBut_53 rfl rfl ?_
    refine a_iconstN (a := 0) dM_takeBut_54 (by decide) ?_
    refine a_putz dM_takeBut_55 fl12_150 rfl (by decide) ly_95 (by omega) ?_
    rw [show m_up (m_row (m_row (m_row I 95 (ltF x F 2 (tkB (I 96) len p))) 104 D) 105 (va_up A k (nI (vN (I 96) len p)))) 95 22 (nI 0) = (m_row (m_row (m_row I 95 (va_up (ltF x F 2 (tkB (I 96) len p)) 22 (nI 0))) 104 D) 105 (va_up A k (nI (vN (I 96) len p)))) from (by rw [m_up_comm (by decide), m_up_comm (by decide), m_up_r])]
    refine a_aload_n 0 dM_takeBut_58 rfl rfl ?_
    refine a_callV (Q' := m_res none (mRd I (tkG (I 96) len (tkE (I 96) len p) (va_up (ltF x F 2 (tkB (I 96) len p)) 22 (nI 0))) D (va_up A k (nI (vN (I 96) len p)))) (m_up J 95 14 (tkW (I 96) len (tkE (I 96) len p))) R) (as := []) (st := []) dM_takeBut_59 ml12_154 rfl (Nat.le_of_ble_eq_true rfl) ly_95 rfl rfl (by decide) (by omega) (Nat.le_of_ble_eq_true rfl) rfl (Nat.le_refl _) (Nat.le_refl _) (c_tok (S := S) (d := d) (n := n) (F := (va_up (ltF x F 2 (tkB (I 96) len p)) 22 (nI 0))) (D := D) (A := (va_up A k (nI (vN (I 96) len p)))) (w := w) hn hR hl6 hby he.2 ((ltF_o (by decide) (by decide)).trans hS.h9) ((ltF_o (by decide) (by decide)).trans hS.h10)) (m_go ?_)
    show AW _ _ _ _ _ _ _ _ [] _ _ _ _
    refine a_iconstN (a := 1) dM_takeBut_62 (by decide) ?_
    exact a_zret dM_takeBut_63 rfl (by rfl) (bq hc)
  · by_cases c2 : nI (vN (I 96) len p) = but
    · have hc : (bdB (vN (I 96) len p) lo hi || decide (nI (vN (I 96) len p) = but)) = true := by rw [decide_eq_true c2, Bool.or_true]
      refine a_aload_n 0 dM_takeBut_0 rfl rfl ?_
      refine a_geti dM_takeBut_1 fl12_127 rfl ly_95 (by omega) ?_
      rw [show (m_row (m_row (m_row I 95 F) 104 D) 105 A) 95 12 = (nI 3) from h12]
      refine a_iconstN (a := 3) dM_takeBut_4 (by decide) ?_
      refine a_icmp_eqN (tgt := 13) dM_takeBut_5 (by decide) (by omega) (by omega) (fun _ => ?_) (fun c => False.elim (by omega))
      refine a_aload_n 0 dM_takeBut_13 rfl rfl ?_
      refine a_geta (r := 105) dM_takeBut_14 fl12_38 rfl ly_95 (by omega) (rf_95_19 hR) ?_
      refine a_iload_n 1 dM_takeBut_17 rfl rfl ?_
      refine a_aload_n 0 dM_takeBut_18 rfl rfl ?_
      refine a_geti dM_takeBut_19 fl12_130 rfl ly_95 (by omega) ?_
      rw [show (m_row (m_row (m_row I 95 F) 104 D) 105 A) 95 13 = (nI (vN (I 96) len p)) from h13]
      refine a_iastN (a := k) dM_takeBut_22 ly_105 (by omega) (by omega) (by decide) ?_
      rw [show m_up (m_row (m_row (m_row I 95 F) 104 D) 105 A) 105 k (nI (vN (I 96) len p)) = (m_row (m_row (m_row I 95 F) 104 D) 105 (va_up A k (nI (vN (I 96) len p)))) from (by rw [m_up_r])]
      refine a_aload_n 0 dM_takeBut_23 rfl rfl ?_
      refine a_geti dM_takeBut_24 fl12_130 rfl ly_95 (by omega) ?_
      rw [show (m_row (m_row (m_row I 95 F) 104 D) 105 (va_up A k (nI (vN (I 96) len p)))) 95 13 = (nI (vN (I 96) len p)) from h13]
      refine a_iload_n 2 dM_takeBut_27 rfl rfl ?_
      refine a_iload_n 3 dM_takeBut_28 rfl rfl ?_
      refine a_callS (Q' := m_res (some (.int 1)) (m_row (m_row (m_row I 95 F) 104 D) 105 (va_up A k (nI (vN (I 96) len p)))) (m_up J 95 14 w) R) (as := [.int (nI (vN (I 96) len p)), .int (nI lo), .int (nI hi)]) (st := []) dM_takeBut_29 ml12_102 rfl (Nat.le_of_ble_eq_true rfl) (Nat.le_of_ble_eq_true rfl) rfl (Nat.le_refl _) (Nat.le_refl _) (c_M_inE (fi.trans (if_neg c1))) (m_go ?_)
      show AW _ _ _ _ _ _ _ _ [.int 1] _ _ _ _
      refine a_if_eq (tgt := 44) dM_takeBut_32 (by decide) (fun c => False.elim (absurd c (by decide))) (fun _ => ?_)
      refine a_aload_n 0 dM_takeBut_35 rfl rfl ?_
      refine a_geti dM_takeBut_36 fl12_130 rfl ly_95 (by omega) ?_
      rw [show (m_row (m_row (m_row I 95 F) 104 D) 105 (va_up A k (nI (vN (I 96) len p)))) 95 13 = (nI (vN (I 96) len p)) from h13]
      refine a_iload 4 dM_takeBut_39 rfl ?_
      refine a_icmp_ne (tgt := 58) dM_takeBut_41 (by decide) (fun c => False.elim (c c2)) (fun _ => ?_)
      refine a_aload_n 0 dM_takeBut_44 rfl rfl ?_
      refine a_iconstN (a := 2) dM_takeBut_45 (by decide) ?_
      refine a_aload_n 0 dM_takeBut_46 rfl rfl ?_
      refine a_geti dM_takeBut_47 fl12_120 rfl ly_95 (by omega) ?_
      rw [show (m_row (m_row (m_row I 95 F) 104 D) 105 (va_up A k (nI (vN (I 96) len p)))) 95 11 = (nI (tkB (I 96) len p)) from hS.h11]
      refine a_callV (Q' := m_res none (mRd I (ltF x F 2 (tkB (I 96) len p)) D (va_up A k (nI (vN (I 96) len p)))) (m_up J 95 14 w) R) (as := [.int (nI 2), .int (nI (tkB (I 96) len p))]) (st := []) dM_takeBut_50 ml12_146 rfl (Nat.le_of_ble_eq_true rfl) ly_95 rfl rfl (by decide) (by omega) (Nat.le_of_ble_eq_true rfl) rfl (Nat.le_refl _) (Nat.le_refl _) (c_later (S := S) (d := d + 1) (n := n) (F := F) (D := D) (A := (va_up A k (nI (vN (I 96) len p)))) hn hR hS.f5 hS.h16 hS.h17 (by omega) (fun z => Nat.lt_of_lt_of_le (hS.hlp z) hb.1)) (m_go ?_)
      show AW _ _ _ _ _ _ _ _ [] _ _ _ _
      show AW _ _ _ _ _ _ _ _ [] (m_row (m_row (m_row I 95 (ltF x F 2 (tkB (I 96) len p))) 104 D) 105 (va_up A k (nI (vN (I 96) len p)))) _ _ _
      refine a_aload_n 0 dM_takeBut_53 rfl rfl ?_
      refine a_iconstN (a := 0) dM_takeBut_54 (by decide) ?_
      refine a_putz dM_takeBut_55 fl12_150 rfl (by decide) ly_95 (by omega) ?_
      rw [show m_up (m_row (m_row (m_row I 95 (ltF x F 2 (tkB (I 96) len p))) 104 D) 105 (va_up A k (nI (vN (I 96) len p)))) 95 22 (nI 0) = (m_row (m_row (m_row I 95 (va_up (ltF x F 2 (tkB (I 96) len p)) 22 (nI 0))) 104 D) 105 (va_up A k (nI (vN (I 96) len p)))) from (by rw [m_up_comm (by decide), m_up_comm (by decide), m_up_r])]
      refine a_aload_n 0 dM_takeBut_58 rfl rfl ?_
      refine a_callV (Q' := m_res none (mRd I (tkG (I 96) len (tkE (I 96) len p) (va_up (ltF x F 2 (tkB (I 96) len p)) 22 (nI 0))) D (va_up A k (nI (vN (I 96) len p)))) (m_up J 95 14 (tkW (I 96) len (tkE (I 96) len p))) R) (as := []) (st := []) dM_takeBut_59 ml12_154 rfl (Nat.le_of_ble_eq_true rfl) ly_95 rfl rfl (by decide) (by omega) (Nat.le_of_ble_eq_true rfl) rfl (Nat.le_refl _) (Nat.le_refl _) (c_tok (S := S) (d := d) (n := n) (F := (va_up (ltF x F 2 (tkB (I 96) len p)) 22 (nI 0))) (D := D) (A := (va_up A k (nI (vN (I 96) len p)))) (w := w) hn hR hl6 hby he.2 ((ltF_o (by decide) (by decide)).trans hS.h9) ((ltF_o (by decide) (by decide)).trans hS.h10)) (m_go ?_)
      show AW _ _ _ _ _ _ _ _ [] _ _ _ _
      refine a_iconstN (a := 1) dM_takeBut_62 (by decide) ?_
      exact a_zret dM_takeBut_63 rfl (by rfl) (bq hc)
    · have hc : (bdB (vN (I 96) len p) lo hi || decide (nI (vN (I 96) len p) = but)) = false := by rw [decide_eq_false c2, Bool.or_false]; exact Bool.eq_false_iff.mpr c1
      refine a_aload_n 0 dM_takeBut_0 rfl rfl ?_
      refine a_geti dM_takeBut_1 fl12_127 rfl ly_95 (by omega) ?_
      rw [show (m_row (m_row (m_row I 95 F) 104 D) 105 A) 95 12 = (nI 3) from h12]
      refine a_iconstN (a := 3) dM_takeBut_4 (by decide) ?_
      refine a_icmp_eqN (tgt := 13) dM_takeBut_5 (by decide) (by omega) (by omega) (fun _ => ?_) (fun c => False.elim (by omega))
      refine a_aload_n 0 dM_takeBut_13 rfl rfl ?_
      refine a_geta (r := 105) dM_takeBut_14 fl12_38 rfl ly_95 (by omega) (rf_95_19 hR) ?_
      refine a_iload_n 1 dM_takeBut_17 rfl rfl ?_
      refine a_aload_n 0 dM_takeBut_18 rfl rfl ?_
      refine a_geti dM_takeBut_19 fl12_130 rfl ly_95 (by omega) ?_
      rw [show (m_row (m_row (m_row I 95 F) 104 D) 105 A) 95 13 = (nI (vN (I 96) len p)) from h13]
      refine a_iastN (a := k) dM_takeBut_22 ly_105 (by omega) (by omega) (by decide) ?_
      rw [show m_up (m_row (m_row (m_row I 95 F) 104 D) 105 A) 105 k (nI (vN (I 96) len p)) = (m_row (m_row (m_row I 95 F) 104 D) 105 (va_up A k (nI (vN (I 96) len p)))) from (by rw [m_up_r])]
      refine a_aload_n 0 dM_takeBut_23 rfl rfl ?_
      refine a_geti dM_takeBut_24 fl12_130 rfl ly_95 (by omega) ?_
      rw [show (m_row (m_row (m_row I 95 F) 104 D) 105 (va_up A k (nI (vN (I 96) len p)))) 95 13 = (nI (vN (I 96) len p)) from h13]
      refine a_iload_n 2 dM_takeBut_27 rfl rfl ?_
      refine a_iload_n 3 dM_takeBut_28 rfl rfl ?_
      refine a_callS (Q' := m_res (some (.int 1)) (m_row (m_row (m_row I 95 F) 104 D) 105 (va_up A k (nI (vN (I 96) len p)))) (m_up J 95 14 w) R) (as := [.int (nI (vN (I 96) len p)), .int (nI lo), .int (nI hi)]) (st := []) dM_takeBut_29 ml12_102 rfl (Nat.le_of_ble_eq_true rfl) (Nat.le_of_ble_eq_true rfl) rfl (Nat.le_refl _) (Nat.le_refl _) (c_M_inE (fi.trans (if_neg c1))) (m_go ?_)
      show AW _ _ _ _ _ _ _ _ [.int 1] _ _ _ _
      refine a_if_eq (tgt := 44) dM_takeBut_32 (by decide) (fun c => False.elim (absurd c (by decide))) (fun _ => ?_)
      refine a_aload_n 0 dM_takeBut_35 rfl rfl ?_
      refine a_geti dM_takeBut_36 fl12_130 rfl ly_95 (by omega) ?_
      rw [show (m_row (m_row (m_row I 95 F) 104 D) 105 (va_up A k (nI (vN (I 96) len p)))) 95 13 = (nI (vN (I 96) len p)) from h13]
      refine a_iload 4 dM_takeBut_39 rfl ?_
      refine a_icmp_ne (tgt := 58) dM_takeBut_41 (by decide) (fun _ => ?_) (fun c => False.elim (c2 c))
      refine a_aload_n 0 dM_takeBut_58 rfl rfl ?_
      refine a_callV (Q' := m_res none (mRd I (tkG (I 96) len (tkE (I 96) len p) F) D (va_up A k (nI (vN (I 96) len p)))) (m_up J 95 14 (tkW (I 96) len (tkE (I 96) len p))) R) (as := []) (st := []) dM_takeBut_59 ml12_154 rfl (Nat.le_of_ble_eq_true rfl) ly_95 rfl rfl (by decide) (by omega) (Nat.le_of_ble_eq_true rfl) rfl (Nat.le_refl _) (Nat.le_refl _) (c_tok (S := S) (d := d) (n := n) (F := F) (D := D) (A := (va_up A k (nI (vN (I 96) len p)))) (w := w) hn hR hl6 hby he.2 hS.h9 hS.h10) (m_go ?_)
      show AW _ _ _ _ _ _ _ _ [] _ _ _ _
      refine a_iconstN (a := 1) dM_takeBut_62 (by decide) ?_
      exact a_zret dM_takeBut_63 rfl (by rfl) (by rw [hc, s1_f]; exact ⟨rfl, rfl, rfl, _, RS_tk hby he.2 hS.h10 hS.f5 hS.h16 hS.h17 (fun z => Nat.lt_of_lt_of_le (hS.hlp z) (Nat.le_trans hb.1 he.1)) hS.h20 hS.h21 hS.h22, rfl⟩)
theorem r_take0 {S : Nat × (Nat → Int32)} {d n : Nat} {I : mI} {J : mJ} {R : mR} (hn : 122 ≤ n) (hR : m_fin R) {len : Nat} (hl6 : len ≤ 600) (hby : byT (I 96) len) {p : Nat} (hp : p ≤ len) {x : Nat × Nat} {gh gl g : Int32} {F D A : Nat → Int32} (hS : RS (I 96) len p x gh gl g F) {w : Int64} {k lo hi : Nat} (h : ¬ tkS (I 96) len p = 2) : AW S (d + 3) YM_take n n (tq0 I J R (tkB (I 96) len p) D A) 0 [(0, .ref 95), (1, .int (nI k)), (2, .int (nI lo)), (3, .int (nI hi))] [] (m_row (m_row (m_row I 95 F) 104 D) 105 A) (m_up J 95 14 w) R n := by
  refine a_aload_n 0 dM_take_0 rfl rfl ?_
  refine a_iload_n 1 dM_take_1 rfl rfl ?_
  refine a_iload_n 2 dM_take_2 rfl rfl ?_
  refine a_iload_n 3 dM_take_3 rfl rfl ?_
  refine a_iconst (v := -1) dM_take_4 (by decide) ?_
  refine a_callV (Q' := (tq0 I J R (tkB (I 96) len p) D A)) (as := [.int (nI k), .int (nI lo), .int (nI hi), .int (-1)]) (st := []) dM_take_5 ml12_157 rfl (Nat.le_of_ble_eq_true rfl) ly_95 rfl rfl (by decide) (by omega) (Nat.le_of_ble_eq_true rfl) rfl (Nat.le_refl _) (Nat.le_refl _) (r_takeBut0 hn hR hl6 hby hp hS h) ?_
  intro v9 I9 J9 R9 ⟨e1, ⟨w9, e2⟩, e3, F1, h15, e4⟩
  rw [e1, e2, e3, e4]
  show AW _ _ _ _ _ _ _ _ [.int 0] (m_row (m_row (m_row I 95 F1) 104 D) 105 A) _ _ _
  exact a_zret dM_take_8 rfl (by rfl) ⟨rfl, ⟨w9, rfl⟩, rfl, _, h15, rfl⟩
theorem r_take1 {S : Nat × (Nat → Int32)} {d n : Nat} {I : mI} {J : mJ} {R : mR} (hn : 122 ≤ n) (hR : m_fin R) {len : Nat} (hl6 : len ≤ 600) (hby : byT (I 96) len) {p : Nat} (hp : p ≤ len) {x : Nat × Nat} {gh gl g : Int32} {F D A : Nat → Int32} (hS : RS (I 96) len p x gh gl g F) {w : Int64} {k lo hi : Nat} (hk : k < 3) (hlo : lo < 100) (hhi : hi < 100) (h : tkS (I 96) len p = 2) : AW S (d + 3) YM_take n n (tq1 I J R len (tkE (I 96) len p) (s1 x (bdB (vN (I 96) len p) lo hi) (2, (tkB (I 96) len p))) gh gl (if (bdB (vN (I 96) len p) lo hi) = true then 0 else g) D (va_up A k (nI (vN (I 96) len p)))) 0 [(0, .ref 95), (1, .int (nI k)), (2, .int (nI lo)), (3, .int (nI hi))] [] (m_row (m_row (m_row I 95 F) 104 D) 105 A) (m_up J 95 14 w) R n := by
  have hbb : (bdB (vN (I 96) len p) lo hi || decide (nI (vN (I 96) len p) = -1)) = (bdB (vN (I 96) len p) lo hi) := by rw [decide_eq_false (nI_m1 (by have := (vN_of hp h).1; omega)), Bool.or_false]
  refine a_aload_n 0 dM_take_0 rfl rfl ?_
  refine a_iload_n 1 dM_take_1 rfl rfl ?_
  refine a_iload_n 2 dM_take_2 rfl rfl ?_
  refine a_iload_n 3 dM_take_3 rfl rfl ?_
  refine a_iconst (v := -1) dM_take_4 (by decide) ?_
  refine a_callV (Q' := (tq1 I J R len (tkE (I 96) len p) (s1 x (bdB (vN (I 96) len p) lo hi) (2, (tkB (I 96) len p))) gh gl (if (bdB (vN (I 96) len p) lo hi) = true then 0 else g) D (va_up A k (nI (vN (I 96) len p))))) (as := [.int (nI k), .int (nI lo), .int (nI hi), .int (-1)]) (st := []) dM_take_5 ml12_157 rfl (Nat.le_of_ble_eq_true rfl) ly_95 rfl rfl (by decide) (by omega) (Nat.le_of_ble_eq_true rfl) rfl (Nat.le_refl _) (Nat.le_refl _) (by have q := r_takeBut1 (S := S) (d := d) (n := n) (J := J) (w := w) (A := A) (D := D) (but := -1) hn hR hl6 hby hp hS hk hlo hhi h; rw [hbb] at q; exact q) ?_
  intro v9 I9 J9 R9 ⟨e1, e2, e3, F1, hS1, e4⟩
  rw [e1, e2, e3, e4]
  show AW _ _ _ _ _ _ _ _ [.int 1] (m_row (m_row (m_row I 95 F1) 104 D) 105 (va_up A k (nI (vN (I 96) len p)))) _ _ _
  exact a_zret dM_take_8 rfl (by rfl) ⟨rfl, rfl, rfl, _, hS1, rfl⟩
theorem RS_20 {T : Nat → Int32} {len p : Nat} {x : Nat × Nat} {gh gl g y : Int32} {F : Nat → Int32} (hS : RS T len p x gh gl g F) : RS T len p x y gl g (va_up F 20 y) :=
  RS.mk hS.h9 hS.h10 hS.h11 hS.h12 hS.h13 hS.f5 hS.h16 hS.h17 hS.hlp rfl hS.h21 hS.h22
theorem RS_21 {T : Nat → Int32} {len p : Nat} {x : Nat × Nat} {gh gl g y : Int32} {F : Nat → Int32} (hS : RS T len p x gh gl g F) : RS T len p x gh y g (va_up F 21 y) :=
  RS.mk hS.h9 hS.h10 hS.h11 hS.h12 hS.h13 hS.f5 hS.h16 hS.h17 hS.hlp hS.h20 rfl hS.h22
theorem r_takeHouse0 {S : Nat × (Nat → Int32)} {d n : Nat} {I : mI} {J : mJ} {R : mR} (hn : 122 ≤ n) (hR : m_fin R) {len : Nat} (hl6 : len ≤ 600) (hby : byT (I 96) len) {p : Nat} (hp : p ≤ len) {x : Nat × Nat} {gh gl g : Int32} {F D A : Nat → Int32} (hS : RS (I 96) len p x gh gl g F) {w : Int64} {k : Nat} (h : ¬ tkS (I 96) len p = 2) : AW S (d + 4) YM_takeHouse n n (tq0 I J R (tkB (I 96) len p) D A) 0 [(0, .ref 95), (1, .int (nI k))] [] (m_row (m_row (m_row I 95 F) 104 D) 105 A) (m_up J 95 14 w) R n := by
  refine a_aload_n 0 dM_takeHouse_0 rfl rfl ?_
  refine a_iload_n 1 dM_takeHouse_1 rfl rfl ?_
  refine a_iconstN (a := 0) dM_takeHouse_2 (by decide) ?_
  refine a_iconstN (a := 5) dM_takeHouse_3 (by decide) ?_
  refine a_callV (Q' := (tq0 I J R (tkB (I 96) len p) D A)) (as := [.int (nI k), .int (nI 0), .int (nI 5)]) (st := []) dM_takeHouse_4 ml12_161 rfl (Nat.le_of_ble_eq_true rfl) ly_95 rfl rfl (by decide) (by omega) (Nat.le_of_ble_eq_true rfl) rfl (Nat.le_refl _) (Nat.le_refl _) (r_take0 hn hR hl6 hby hp hS h) ?_
  intro v9 I9 J9 R9 ⟨e1, ⟨w9, e2⟩, e3, F1, h15, e4⟩
  rw [e1, e2, e3, e4]
  show AW _ _ _ _ _ _ _ _ [.int 0] (m_row (m_row (m_row I 95 F1) 104 D) 105 A) _ _ _
  refine a_if_ne (tgt := 12) dM_takeHouse_7 (by decide) (fun c => False.elim (c rfl)) (fun _ => ?_)
  refine a_iconstN (a := 0) dM_takeHouse_10 (by decide) ?_
  exact a_zret dM_takeHouse_11 rfl (by rfl) ⟨rfl, ⟨w9, rfl⟩, rfl, _, h15, rfl⟩
theorem r_takeHouse1 {S : Nat × (Nat → Int32)} {d n : Nat} {I : mI} {J : mJ} {R : mR} (hn : 122 ≤ n) (hR : m_fin R) {len : Nat} (hl6 : len ≤ 600) (hby : byT (I 96) len) {p : Nat} (hp : p ≤ len) {x : Nat × Nat} {gh gl g : Int32} {F D A : Nat → Int32} (hS : RS (I 96) len p x gh gl g F) {w : Int64} {k : Nat} (hk : k < 3) (h : tkS (I 96) len p = 2) : AW S (d + 4) YM_takeHouse n n (tq1 I J R len (tkE (I 96) len p) (s1 x (bdB (vN (I 96) len p) 0 5) (2, (tkB (I 96) len p))) (mxI gh (vN (I 96) len p)) gl (if (bdB (vN (I 96) len p) 0 5) = true then 0 else g) D (va_up A k (nI (vN (I 96) len p)))) 0 [(0, .ref 95), (1, .int (nI k))] [] (m_row (m_row (m_row I 95 F) 104 D) 105 A) (m_up J 95 14 w) R n := by
  refine a_aload_n 0 dM_takeHouse_0 rfl rfl ?_
  refine a_iload_n 1 dM_takeHouse_1 rfl rfl ?_
  refine a_iconstN (a := 0) dM_takeHouse_2 (by decide) ?_
  refine a_iconstN (a := 5) dM_takeHouse_3 (by decide) ?_
  refine a_callV (Q' := (tq1 I J R len (tkE (I 96) len p) (s1 x (bdB (vN (I 96) len p) 0 5) (2, (tkB (I 96) len p))) gh gl (if (bdB (vN (I 96) len p) 0 5) = true then 0 else g) D (va_up A k (nI (vN (I 96) len p))))) (as := [.int (nI k), .int (nI 0), .int (nI 5)]) (st := []) dM_takeHouse_4 ml12_161 rfl (Nat.le_of_ble_eq_true rfl) ly_95 rfl rfl (by decide) (by omega) (Nat.le_of_ble_eq_true rfl) rfl (Nat.le_refl _) (Nat.le_refl _) (r_take1 hn hR hl6 hby hp hS hk (by decide) (by decide) h) ?_
  intro v9 I9 J9 R9 ⟨e1, e2, e3, F1, hS1, e4⟩
  rw [e1, e2, e3, e4]
  show AW _ _ _ _ _ _ _ _ [.int 1] (m_row (m_row (m_row I 95 F1) 104 D) 105 (va_up A k (nI (vN (I 96) len p)))) _ _ _
  refine a_if_ne (tgt := 12) dM_takeHouse_7 (by decide) (fun _ => ?_) (fun c => False.elim (absurd c (by decide)))
  refine a_aload_n 0 dM_takeHouse_12 rfl rfl ?_
  refine a_aload_n 0 dM_takeHouse_13 rfl rfl ?_
  refine a_geti dM_takeHouse_14 fl12_164 rfl ly_95 (by omega) ?_
  rw [show (m_row (m_row (m_row I 95 F1) 104 D) 105 (va_up A k (nI (vN (I 96) len p)))) 95 20 = gh from hS1.h20]
  refine a_aload_n 0 dM_takeHouse_17 rfl rfl ?_
  refine a_geta (r := 105) dM_takeHouse_18 fl12_38 rfl ly_95 (by omega) (rf_95_19 hR) ?_
  refine a_iload_n 1 dM_takeHouse_21 rfl rfl ?_
  refine a_ialdN (a := k) dM_takeHouse_22 ly_105 (by omega) (by omega) (by decide) ?_
  rw [show (m_row (m_row (m_row I 95 F1) 104 D) 105 (va_up A k (nI (vN (I 96) len p)))) 105 k = (va_up A k (nI (vN (I 96) len p))) k from rfl]
  rw [show ((va_up A k (nI (vN (I 96) len p))) k) = (nI (vN (I 96) len p)) from (va_up_self _ _ _)]
  refine a_callS (Q' := m_res (some (.int (mxI gh (vN (I 96) len p)))) (m_row (m_row (m_row I 95 F1) 104 D) 105 (va_up A k (nI (vN (I 96) len p)))) (m_up J 95 14 (tkW (I 96) len (tkE (I 96) len p))) R) (as := [.int gh, .int (nI (vN (I 96) len p))]) (st := [.ref 95]) dM_takeHouse_23 ml12_167 rfl (Nat.le_of_ble_eq_true rfl) (Nat.le_of_ble_eq_true rfl) rfl (Nat.le_refl _) (Nat.le_refl _) (by have q := c_M_greater (S := S) (d := d + 3) (n := n) (I := (m_row (m_row (m_row I 95 F1) 104 D) 105 (va_up A k (nI (vN (I 96) len p))))) (J := (m_up J 95 14 (tkW (I 96) len (tkE (I 96) len p)))) (R := R) (a := gh) (b := nI (vN (I 96) len p)); rw [gr_mx] at q; exact q) (m_go ?_)
  show AW _ _ _ _ _ _ _ _ [.int (mxI gh (vN (I 96) len p)), .ref 95] _ _ _ _
  refine a_puti dM_takeHouse_26 fl12_164 rfl ly_95 (by omega) ?_
  rw [show m_up (m_row (m_row (m_row I 95 F1) 104 D) 105 (va_up A k (nI (vN (I 96) len p)))) 95 20 (mxI gh (vN (I 96) len p)) = (m_row (m_row (m_row I 95 (va_up F1 20 (mxI gh (vN (I 96) len p)))) 104 D) 105 (va_up A k (nI (vN (I 96) len p)))) from (by rw [m_up_comm (by decide), m_up_comm (by decide), m_up_r])]
  refine a_iconstN (a := 1) dM_takeHouse_29 (by decide) ?_
  exact a_zret dM_takeHouse_30 rfl (by rfl) ⟨rfl, rfl, rfl, _, RS_20 hS1, rfl⟩
theorem r_takeLetter0 {S : Nat × (Nat → Int32)} {d n : Nat} {I : mI} {J : mJ} {R : mR} (hn : 122 ≤ n) (hR : m_fin R) {len : Nat} (hl6 : len ≤ 600) (hby : byT (I 96) len) {p : Nat} (hp : p ≤ len) {x : Nat × Nat} {gh gl g : Int32} {F D A : Nat → Int32} (hS : RS (I 96) len p x gh gl g F) {w : Int64} {k : Nat} {but : Int32} (h : ¬ tkS (I 96) len p = 2) : AW S (d + 4) YM_takeLetter n n (tq0 I J R (tkB (I 96) len p) D A) 0 [(0, .ref 95), (1, .int (nI k)), (2, .int but)] [] (m_row (m_row (m_row I 95 F) 104 D) 105 A) (m_up J 95 14 w) R n := by
  refine a_aload_n 0 dM_takeLetter_0 rfl rfl ?_
  refine a_iload_n 1 dM_takeLetter_1 rfl rfl ?_
  refine a_iconstN (a := 0) dM_takeLetter_2 (by decide) ?_
  refine a_bipushN (a := 9) dM_takeLetter_3 (by decide) ?_
  refine a_iload_n 2 dM_takeLetter_5 rfl rfl ?_
  refine a_callV (Q' := (tq0 I J R (tkB (I 96) len p) D A)) (as := [.int (nI k), .int (nI 0), .int (nI 9), .int but]) (st := []) dM_takeLetter_6 ml12_157 rfl (Nat.le_of_ble_eq_true rfl) ly_95 rfl rfl (by decide) (by omega) (Nat.le_of_ble_eq_true rfl) rfl (Nat.le_refl _) (Nat.le_refl _) (r_takeBut0 hn hR hl6 hby hp hS h) ?_
  intro v9 I9 J9 R9 ⟨e1, ⟨w9, e2⟩, e3, F1, h15, e4⟩
  rw [e1, e2, e3, e4]
  show AW _ _ _ _ _ _ _ _ [.int 0] (m_row (m_row (m_row I 95 F1) 104 D) 105 A) _ _ _
  refine a_if_ne (tgt := 14) dM_takeLetter_9 (by decide) (fun c => False.elim (c rfl)) (fun _ => ?_)
  refine a_iconstN (a := 0) dM_takeLetter_12 (by decide) ?_
  exact a_zret dM_takeLetter_13 rfl (by rfl) ⟨rfl, ⟨w9, rfl⟩, rfl, _, h15, rfl⟩
theorem r_takeLetter1 {S : Nat × (Nat → Int32)} {d n : Nat} {I : mI} {J : mJ} {R : mR} (hn : 122 ≤ n) (hR : m_fin R) {len : Nat} (hl6 : len ≤ 600) (hby : byT (I 96) len) {p : Nat} (hp : p ≤ len) {x : Nat × Nat} {gh gl g : Int32} {F D A : Nat → Int32} (hS : RS (I 96) len p x gh gl g F) {w : Int64} {k : Nat} {but : Int32} (hk : k < 3) (h : tkS (I 96) len p = 2) : AW S (d + 4) YM_takeLetter n n (tq1 I J R len (tkE (I 96) len p) (s1 x (bdB (vN (I 96) len p) 0 9 || decide (nI (vN (I 96) len p) = but)) (2, (tkB (I 96) len p))) gh (mxI gl (vN (I 96) len p)) (if (bdB (vN (I 96) len p) 0 9 || decide (nI (vN (I 96) len p) = but)) = true then 0 else g) D (va_up A k (nI (vN (I 96) len p)))) 0 [(0, .ref 95), (1, .int (nI k)), (2, .int but)] [] (m_row (m_row (m_row I 95 F) 104 D) 105 A) (m_up J 95 14 w) R n := by
  refine a_aload_n 0 dM_takeLetter_0 rfl rfl ?_
  refine a_iload_n 1 dM_takeLetter_1 rfl rfl ?_
  refine a_iconstN (a := 0) dM_takeLetter_2 (by decide) ?_
  refine a_bipushN (a := 9) dM_takeLetter_3 (by decide) ?_
  refine a_iload_n 2 dM_takeLetter_5 rfl rfl ?_
  refine a_callV (Q' := (tq1 I J R len (tkE (I 96) len p) (s1 x (bdB (vN (I 96) len p) 0 9 || decide (nI (vN (I 96) len p) = but)) (2, (tkB (I 96) len p))) gh gl (if (bdB (vN (I 96) len p) 0 9 || decide (nI (vN (I 96) len p) = but)) = true then 0 else g) D (va_up A k (nI (vN (I 96) len p))))) (as := [.int (nI k), .int (nI 0), .int (nI 9), .int but]) (st := []) dM_takeLetter_6 ml12_157 rfl (Nat.le_of_ble_eq_true rfl) ly_95 rfl rfl (by decide) (by omega) (Nat.le_of_ble_eq_true rfl) rfl (Nat.le_refl _) (Nat.le_refl _) (r_takeBut1 hn hR hl6 hby hp hS hk (by decide) (by decide) h) ?_
  intro v9 I9 J9 R9 ⟨e1, e2, e3, F1, hS1, e4⟩
  rw [e1, e2, e3, e4]
  show AW _ _ _ _ _ _ _ _ [.int 1] (m_row (m_row (m_row I 95 F1) 104 D) 105 (va_up A k (nI (vN (I 96) len p)))) _ _ _
  refine a_if_ne (tgt := 14) dM_takeLetter_9 (by decide) (fun _ => ?_) (fun c => False.elim (absurd c (by decide)))
  refine a_aload_n 0 dM_takeLetter_14 rfl rfl ?_
  refine a_aload_n 0 dM_takeLetter_15 rfl rfl ?_
  refine a_geti dM_takeLetter_16 fl12_171 rfl ly_95 (by omega) ?_
  rw [show (m_row (m_row (m_row I 95 F1) 104 D) 105 (va_up A k (nI (vN (I 96) len p)))) 95 21 = gl from hS1.h21]
  refine a_aload_n 0 dM_takeLetter_19 rfl rfl ?_
  refine a_geta (r := 105) dM_takeLetter_20 fl12_38 rfl ly_95 (by omega) (rf_95_19 hR) ?_
  refine a_iload_n 1 dM_takeLetter_23 rfl rfl ?_
  refine a_ialdN (a := k) dM_takeLetter_24 ly_105 (by omega) (by omega) (by decide) ?_
  rw [show (m_row (m_row (m_row I 95 F1) 104 D) 105 (va_up A k (nI (vN (I 96) len p)))) 105 k = (va_up A k (nI (vN (I 96) len p))) k from rfl]
  rw [show ((va_up A k (nI (vN (I 96) len p))) k) = (nI (vN (I 96) len p)) from (va_up_self _ _ _)]
  refine a_callS (Q' := m_res (some (.int (mxI gl (vN (I 96) len p)))) (m_row (m_row (m_row I 95 F1) 104 D) 105 (va_up A k (nI (vN (I 96) len p)))) (m_up J 95 14 (tkW (I 96) len (tkE (I 96) len p))) R) (as := [.int gl, .int (nI (vN (I 96) len p))]) (st := [.ref 95]) dM_takeLetter_25 ml12_167 rfl (Nat.le_of_ble_eq_true rfl) (Nat.le_of_ble_eq_true rfl) rfl (Nat.le_refl _) (Nat.le_refl _) (by have q := c_M_greater (S := S) (d := d + 3) (n := n) (I := (m_row (m_row (m_row I 95 F1) 104 D) 105 (va_up A k (nI (vN (I 96) len p))))) (J := (m_up J 95 14 (tkW (I 96) len (tkE (I 96) len p)))) (R := R) (a := gl) (b := nI (vN (I 96) len p)); rw [gr_mx] at q; exact q) (m_go ?_)
  show AW _ _ _ _ _ _ _ _ [.int (mxI gl (vN (I 96) len p)), .ref 95] _ _ _ _
  refine a_puti dM_takeLetter_28 fl12_171 rfl ly_95 (by omega) ?_
  rw [show m_up (m_row (m_row (m_row I 95 F1) 104 D) 105 (va_up A k (nI (vN (I 96) len p)))) 95 21 (mxI gl (vN (I 96) len p)) = (m_row (m_row (m_row I 95 (va_up F1 21 (mxI gl (vN (I 96) len p)))) 104 D) 105 (va_up A k (nI (vN (I 96) len p)))) from (by rw [m_up_comm (by decide), m_up_comm (by decide), m_up_r])]
  refine a_iconstN (a := 1) dM_takeLetter_31 (by decide) ?_
  exact a_zret dM_takeLetter_32 rfl (by rfl) ⟨rfl, rfl, rfl, _, RS_21 hS1, rfl⟩
