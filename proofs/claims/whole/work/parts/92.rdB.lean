abbrev rM (I : mI) (F K N P : Nat → Int32) : mI := m_row (m_row (m_row (m_row I 40 F) 57 K) 58 N) 59 P
theorem rM_self {I : mI} : rM I (I 40) (I 57) (I 58) (I 59) = I := by unfold rM; rw [m_row_self, m_row_self, m_row_self, m_row_self]
theorem khC_01 {T : Nat → Int32} {s b e : Nat} : khC T s b e = -1 ∨ ∃ k, k < 4 ∧ khC T s b e = nI k := by
  unfold khC
  split
  · split
    · split
      · split
        · exact Or.inl rfl
        · exact Or.inr ⟨3, by omega, rfl⟩
      · exact Or.inr ⟨2, by omega, rfl⟩
    · exact Or.inr ⟨1, by omega, rfl⟩
  · exact Or.inr ⟨0, by omega, rfl⟩
theorem rM_c {I : mI} {F K N P : Nat → Int32} : m_row (m_row (m_row (m_row I 57 K) 58 N) 59 P) 40 F = rM I F K N P := by
  funext a
  unfold rM m_row
  by_cases h1 : a = 40
  · simp [h1]
  · simp [h1]
theorem c_takeKind0 {S : Nat × (Nat → Int32)} {d n : Nat} {I : mI} {J : mJ} {R : mR} (hn : 122 ≤ n) (hR : m_fin R) (hRt : R 40 5 = some 2) {F : Nat → Int32} {s b e : Nat} (h7 : F 7 = nI s) (h8 : F 8 = nI b) (h9 : F 9 = nI e) (hs : s ≤ 4) (hbe : b ≤ e) (he6 : e ≤ 600) {K N P : Nat → Int32} (hkh : khC (I 2) s b e = -1)  : RUN S (d + 6) YReader_takeKind [.ref 40] (m_row (m_row (m_row (m_row I 40 F) 57 K) 58 N) 59 P) J R n (some (.int 0)) (m_row (m_row (m_row (m_row I 40 F) 57 K) 58 N) 59 P) J R n := by
  show AW S _ YReader_takeKind n n _ 0 [(0, .ref 40)] [] (m_row (m_row (m_row (m_row I 40 F) 57 K) 58 N) 59 P) J R n
  refine a_aload_n 0 dReader_takeKind_0 rfl rfl ?_
  refine a_callV (Q' := m_res (some (.int (-1))) (m_row (m_row (m_row (m_row I 40 F) 57 K) 58 N) 59 P) J R) (as := []) (st := []) dReader_takeKind_1 ml7_195 rfl (Nat.le_of_ble_eq_true rfl) ly_40 rfl rfl (by decide) (by omega) (Nat.le_of_ble_eq_true rfl) rfl (Nat.le_refl _) (Nat.le_refl _) (by have h := c_kindAtHand (S := S) (d := d) (n := n) (J := J) (R := R) (I := m_row (m_row (m_row I 57 K) 58 N) 59 P) (F := F) hn hR hRt h7 h8 h9 hs hbe he6; rw [show m_row (m_row (m_row (m_row I 57 K) 58 N) 59 P) 40 F = (m_row (m_row (m_row (m_row I 40 F) 57 K) 58 N) 59 P) from rM_c] at h; rw [show (m_row (m_row (m_row I 57 K) 58 N) 59 P) 2 = I 2 from rfl, hkh] at h; exact h) (m_go ?_)
  show AW _ _ _ _ _ _ _ _ [.int (-1)] _ _ _ _
  refine a_istore_n (lv' := [(1, .int (-1)), (0, .ref 40)]) dReader_takeKind_4 rfl (by decide) rfl ?_
  refine a_iload_n 0 dReader_takeKind_5 rfl rfl ?_
  refine a_iconst (v := -1) dReader_takeKind_6 (by decide) ?_
  refine a_icmp_eq (tgt := 18) dReader_takeKind_7 (by decide) (fun _ => ?_) (fun c => False.elim (c rfl))
  refine a_iconstN (a := 0) dReader_takeKind_18 (by decide) ?_
  exact a_zret dReader_takeKind_19 rfl (by rfl) ⟨rfl, rfl, rfl, rfl⟩
theorem c_takeKind1 {S : Nat × (Nat → Int32)} {d n : Nat} {I : mI} {J : mJ} {R : mR} (hn : 122 ≤ n) (hR : m_fin R) (hRt : R 40 5 = some 2) {F : Nat → Int32} {s b e : Nat} (h7 : F 7 = nI s) (h8 : F 8 = nI b) (h9 : F 9 = nI e) (hs : s ≤ 4) (hbe : b ≤ e) (he6 : e ≤ 600) {K N P : Nat → Int32} {k kt : Nat} (hk4 : k < 4) (hkh : khC (I 2) s b e = nI k) (hkt : F 12 = nI kt) (hk3 : kt < 3)  : RUN S (d + 6) YReader_takeKind [.ref 40] (m_row (m_row (m_row (m_row I 40 F) 57 K) 58 N) 59 P) J R n (some (.int 1)) (m_row (m_row (m_row (m_row I 40 (va_up F 12 (nI (kt + 1)))) 57 (va_up K kt (nI k))) 58 N) 59 P) J R n := by
  show AW S _ YReader_takeKind n n _ 0 [(0, .ref 40)] [] (m_row (m_row (m_row (m_row I 40 F) 57 K) 58 N) 59 P) J R n
  refine a_aload_n 0 dReader_takeKind_0 rfl rfl ?_
  refine a_callV (Q' := m_res (some (.int (nI k))) (m_row (m_row (m_row (m_row I 40 F) 57 K) 58 N) 59 P) J R) (as := []) (st := []) dReader_takeKind_1 ml7_195 rfl (Nat.le_of_ble_eq_true rfl) ly_40 rfl rfl (by decide) (by omega) (Nat.le_of_ble_eq_true rfl) rfl (Nat.le_refl _) (Nat.le_refl _) (by have h := c_kindAtHand (S := S) (d := d) (n := n) (J := J) (R := R) (I := m_row (m_row (m_row I 57 K) 58 N) 59 P) (F := F) hn hR hRt h7 h8 h9 hs hbe he6; rw [show m_row (m_row (m_row (m_row I 57 K) 58 N) 59 P) 40 F = (m_row (m_row (m_row (m_row I 40 F) 57 K) 58 N) 59 P) from rM_c] at h; rw [show (m_row (m_row (m_row I 57 K) 58 N) 59 P) 2 = I 2 from rfl, hkh] at h; exact h) (m_go ?_)
  show AW _ _ _ _ _ _ _ _ [.int (nI k)] _ _ _ _
  refine a_istore_n (lv' := [(1, .int (nI k)), (0, .ref 40)]) dReader_takeKind_4 rfl (by decide) rfl ?_
  refine a_iload_n 0 dReader_takeKind_5 rfl rfl ?_
  refine a_iconst (v := -1) dReader_takeKind_6 (by decide) ?_
  refine a_icmp_eq (tgt := 18) dReader_takeKind_7 (by decide) (fun c => False.elim (nI_m1 (by omega) c)) (fun _ => ?_)
  refine a_aload_n 1 dReader_takeKind_10 rfl rfl ?_
  refine a_geti dReader_takeKind_11 fl7_121 rfl ly_40 (by omega) ?_
  rw [show (m_row (m_row (m_row (m_row I 40 F) 57 K) 58 N) 59 P) 40 12 = (nI kt) from hkt]
  refine a_iconstN (a := 3) dReader_takeKind_14 (by decide) ?_
  refine a_icmp_ltN (tgt := 20) dReader_takeKind_15 (by decide) (by omega) (by omega) (fun _ => ?_) (fun c => False.elim (by omega))
  refine a_aload_n 1 dReader_takeKind_20 rfl rfl ?_
  refine a_geta (r := 57) dReader_takeKind_21 fl7_32 rfl ly_40 (by omega) (rf_40_11 hR) ?_
  refine a_aload_n 1 dReader_takeKind_24 rfl rfl ?_
  refine a_geti dReader_takeKind_25 fl7_121 rfl ly_40 (by omega) ?_
  rw [show (m_row (m_row (m_row (m_row I 40 F) 57 K) 58 N) 59 P) 40 12 = (nI kt) from hkt]
  refine a_iload_n 0 dReader_takeKind_28 rfl rfl ?_
  refine a_iastN (a := kt) dReader_takeKind_29 ly_57 (by omega) (by omega) (by decide) ?_
  rw [show m_up (m_row (m_row (m_row (m_row I 40 F) 57 K) 58 N) 59 P) 57 kt (nI k) = (m_row (m_row (m_row (m_row I 40 F) 57 (va_up K kt (nI k))) 58 N) 59 P) from (by rw [m_up_comm (by decide), m_up_comm (by decide), m_up_r])]
  refine a_aload_n 1 dReader_takeKind_30 rfl rfl ?_
  refine a_dup dReader_takeKind_31 rfl ?_
  refine a_geti dReader_takeKind_32 fl7_121 rfl ly_40 (by omega) ?_
  rw [show (m_row (m_row (m_row (m_row I 40 F) 57 (va_up K kt (nI k))) 58 N) 59 P) 40 12 = (nI kt) from hkt]
  refine a_iconstN (a := 1) dReader_takeKind_35 (by decide) ?_
  refine a_iaddN (a := kt) (b := 1) dReader_takeKind_36 ?_
  refine a_puti dReader_takeKind_37 fl7_121 rfl ly_40 (by omega) ?_
  rw [show m_up (m_row (m_row (m_row (m_row I 40 F) 57 (va_up K kt (nI k))) 58 N) 59 P) 40 12 (nI (kt + 1)) = (m_row (m_row (m_row (m_row I 40 (va_up F 12 (nI (kt + 1)))) 57 (va_up K kt (nI k))) 58 N) 59 P) from (by rw [m_up_comm (by decide), m_up_comm (by decide), m_up_comm (by decide), m_up_r])]
  refine a_iconstN (a := 1) dReader_takeKind_40 (by decide) ?_
  exact a_zret dReader_takeKind_41 rfl (by rfl) ⟨rfl, rfl, rfl, rfl⟩
def nvC (T : Nat → Int32) : Nat → Nat → Int32 → Int32
  | 0, _, v => v
  | m + 1, p, v => nvC T m (p + 1) (nI 10 * v + T p - nI 48)
theorem l_tkn {S : Nat × (Nat → Int32)} {d n : Nat} {I : mI} {J : mJ} {R : mR} (hn : 122 ≤ n) (hR : m_fin R) (hRt : R 40 5 = some 2) {F : Nat → Int32} {s b e : Nat} (h7 : F 7 = nI s) (h8 : F 8 = nI b) (h9 : F 9 = nI e) (hs : s ≤ 4) (hbe : b ≤ e) (he6 : e ≤ 600) {K N P : Nat → Int32} {Q : Option Value → mI → mJ → mR → Prop} {v9 : Int32} (hx : AW S d YReader_takeNumber n n Q 54 [(2, .int (nI e)), (1, .int v9), (0, .ref 40)] [] (m_row (m_row (m_row (m_row I 40 F) 57 K) 58 N) 59 P) J R n) : ∀ m p v, p + m = e → nvC (I 2) m p v = v9 → AW S d YReader_takeNumber n n Q 25 [(2, .int (nI p)), (1, .int v), (0, .ref 40)] [] (m_row (m_row (m_row (m_row I 40 F) 57 K) 58 N) 59 P) J R n := by
  intro m
  induction m with
  | zero =>
    intro p v hp9 he
    obtain rfl : p = e := by omega
    obtain rfl : v = v9 := he
    refine a_iload_n 0 dReader_takeNumber_25 rfl rfl ?_
    refine a_aload_n 2 dReader_takeNumber_26 rfl rfl ?_
    refine a_geti dReader_takeNumber_27 fl7_90 rfl ly_40 (by omega) ?_
    rw [show (m_row (m_row (m_row (m_row I 40 F) 57 K) 58 N) 59 P) 40 9 = (nI p) from h9]
    refine a_icmp_geN (tgt := 54) dReader_takeNumber_30 (by decide) (by omega) (by omega) (fun _ => ?_) (fun c => False.elim (by omega))
    exact hx
  | succ m ih =>
    intro p v hp9 he
    refine a_iload_n 0 dReader_takeNumber_25 rfl rfl ?_
    refine a_aload_n 2 dReader_takeNumber_26 rfl rfl ?_
    refine a_geti dReader_takeNumber_27 fl7_90 rfl ly_40 (by omega) ?_
    rw [show (m_row (m_row (m_row (m_row I 40 F) 57 K) 58 N) 59 P) 40 9 = (nI e) from h9]
    refine a_icmp_geN (tgt := 54) dReader_takeNumber_30 (by decide) (by omega) (by omega) (fun c => False.elim (by omega)) (fun _ => ?_)
    refine a_bipushN (a := 10) dReader_takeNumber_33 (by decide) ?_
    refine a_iload_n 1 dReader_takeNumber_35 rfl rfl ?_
    refine a_imul dReader_takeNumber_36 ?_
    refine a_aload_n 2 dReader_takeNumber_37 rfl rfl ?_
    refine a_geta (r := 2) dReader_takeNumber_38 fl7_77 rfl ly_40 (by omega) hRt ?_
    refine a_iload_n 0 dReader_takeNumber_41 rfl rfl ?_
    refine a_baldN (a := p) dReader_takeNumber_42 ly_2 (by omega) (by omega) (by decide) (fun hb42 => ?_)
    rw [show (m_row (m_row (m_row (m_row I 40 F) 57 K) 58 N) 59 P) 2 p = I 2 p from rfl]
    refine a_iadd dReader_takeNumber_43 ?_
    refine a_bipushN (a := 48) dReader_takeNumber_44 (by decide) ?_
    refine a_isub dReader_takeNumber_46 ?_
    refine a_istore_n (lv' := [(1, .int ((((nI 10) * v) + (I 2 p)) - (nI 48))), (2, .int (nI p)), (0, .ref 40)]) dReader_takeNumber_47 rfl (by decide) rfl ?_
    refine a_iincN (lv' := [(2, .int (nI (p + 1))), (1, .int ((((nI 10) * v) + (I 2 p)) - (nI 48))), (0, .ref 40)]) (j := 1) dReader_takeNumber_48 rfl (by decide) rfl ?_
    refine a_goto (tgt := 25) dReader_takeNumber_51 (by decide) ?_
    refine a_locs (lv' := [(2, .int (nI (p + 1))), (1, .int ((((nI 10) * v) + (I 2 p)) - (nI 48))), (0, .ref 40)]) [0, 1, 2] rfl ?_
    exact ih (p + 1) _ (by omega) he
theorem c_takeNumber0 {S : Nat × (Nat → Int32)} {d n : Nat} {I : mI} {J : mJ} {R : mR} (hn : 122 ≤ n) (hR : m_fin R) (hRt : R 40 5 = some 2) {F : Nat → Int32} {s b e : Nat} (h7 : F 7 = nI s) (h8 : F 8 = nI b) (h9 : F 9 = nI e) (hs : s ≤ 4) (hbe : b ≤ e) (he6 : e ≤ 600) {K N P : Nat → Int32} (hs2 : ¬ s = 2)  : RUN S d YReader_takeNumber [.ref 40] (m_row (m_row (m_row (m_row I 40 F) 57 K) 58 N) 59 P) J R n (some (.int 0)) (m_row (m_row (m_row (m_row I 40 F) 57 K) 58 N) 59 P) J R n := by
  show AW S _ YReader_takeNumber n n _ 0 [(0, .ref 40)] [] (m_row (m_row (m_row (m_row I 40 F) 57 K) 58 N) 59 P) J R n
  refine a_aload_n 0 dReader_takeNumber_0 rfl rfl ?_
  refine a_geti dReader_takeNumber_1 fl7_53 rfl ly_40 (by omega) ?_
  rw [show (m_row (m_row (m_row (m_row I 40 F) 57 K) 58 N) 59 P) 40 7 = (nI s) from h7]
  refine a_iconstN (a := 2) dReader_takeNumber_4 (by decide) ?_
  refine a_icmp_neN (tgt := 16) dReader_takeNumber_5 (by decide) (by omega) (by omega) (fun _ => ?_) (fun c => False.elim (by omega))
  refine a_iconstN (a := 0) dReader_takeNumber_16 (by decide) ?_
  exact a_zret dReader_takeNumber_17 rfl (by rfl) ⟨rfl, rfl, rfl, rfl⟩
theorem c_takeNumber1 {S : Nat × (Nat → Int32)} {d n : Nat} {I : mI} {J : mJ} {R : mR} (hn : 122 ≤ n) (hR : m_fin R) (hRt : R 40 5 = some 2) {F : Nat → Int32} {s b e : Nat} (h7 : F 7 = nI s) (h8 : F 8 = nI b) (h9 : F 9 = nI e) (hs : s ≤ 4) (hbe : b ≤ e) (he6 : e ≤ 600) {K N P : Nat → Int32} (hs2 : s = 2) {nt : Nat} (hnt : F 15 = nI nt) (hn3 : nt < 3)  : RUN S d YReader_takeNumber [.ref 40] (m_row (m_row (m_row (m_row I 40 F) 57 K) 58 N) 59 P) J R n (some (.int 1)) (m_row (m_row (m_row (m_row I 40 (va_up F 15 (nI (nt + 1)))) 57 K) 58 (va_up N nt (nvC (I 2) (e - b) b (nI 0)))) 59 (va_up P nt (nI b))) J R n := by
  show AW S _ YReader_takeNumber n n _ 0 [(0, .ref 40)] [] (m_row (m_row (m_row (m_row I 40 F) 57 K) 58 N) 59 P) J R n
  refine a_aload_n 0 dReader_takeNumber_0 rfl rfl ?_
  refine a_geti dReader_takeNumber_1 fl7_53 rfl ly_40 (by omega) ?_
  rw [show (m_row (m_row (m_row (m_row I 40 F) 57 K) 58 N) 59 P) 40 7 = (nI s) from h7]
  refine a_iconstN (a := 2) dReader_takeNumber_4 (by decide) ?_
  refine a_icmp_neN (tgt := 16) dReader_takeNumber_5 (by decide) (by omega) (by omega) (fun c => False.elim (by omega)) (fun _ => ?_)
  refine a_aload_n 0 dReader_takeNumber_8 rfl rfl ?_
  refine a_geti dReader_takeNumber_9 fl7_124 rfl ly_40 (by omega) ?_
  rw [show (m_row (m_row (m_row (m_row I 40 F) 57 K) 58 N) 59 P) 40 15 = (nI nt) from hnt]
  refine a_iconstN (a := 3) dReader_takeNumber_12 (by decide) ?_
  refine a_icmp_ltN (tgt := 18) dReader_takeNumber_13 (by decide) (by omega) (by omega) (fun _ => ?_) (fun c => False.elim (by omega))
  refine a_iconstN (a := 0) dReader_takeNumber_18 (by decide) ?_
  refine a_istore_n (lv' := [(1, .int (nI 0)), (0, .ref 40)]) dReader_takeNumber_19 rfl (by decide) rfl ?_
  refine a_aload_n 1 dReader_takeNumber_20 rfl rfl ?_
  refine a_geti dReader_takeNumber_21 fl7_63 rfl ly_40 (by omega) ?_
  rw [show (m_row (m_row (m_row (m_row I 40 F) 57 K) 58 N) 59 P) 40 8 = (nI b) from h8]
  refine a_istore_n (lv' := [(2, .int (nI b)), (1, .int (nI 0)), (0, .ref 40)]) dReader_takeNumber_24 rfl (by decide) rfl ?_
  refine a_locs (lv' := [(2, .int (nI b)), (1, .int (nI 0)), (0, .ref 40)]) [0, 1, 2] rfl ?_
  refine l_tkn hn hR hRt h7 h8 h9 hs hbe he6 (v9 := (nvC (I 2) (e - b) b (nI 0))) ?_ (e - b) b (nI 0) (by omega) rfl
  refine a_aload_n 2 dReader_takeNumber_54 rfl rfl ?_
  refine a_geta (r := 58) dReader_takeNumber_55 fl7_36 rfl ly_40 (by omega) (rf_40_13 hR) ?_
  refine a_aload_n 2 dReader_takeNumber_58 rfl rfl ?_
  refine a_geti dReader_takeNumber_59 fl7_124 rfl ly_40 (by omega) ?_
  rw [show (m_row (m_row (m_row (m_row I 40 F) 57 K) 58 N) 59 P) 40 15 = (nI nt) from hnt]
  refine a_iload_n 1 dReader_takeNumber_62 rfl rfl ?_
  refine a_iastN (a := nt) dReader_takeNumber_63 ly_58 (by omega) (by omega) (by decide) ?_
  rw [show m_up (m_row (m_row (m_row (m_row I 40 F) 57 K) 58 N) 59 P) 58 nt (nvC (I 2) (e - b) b (nI 0)) = (m_row (m_row (m_row (m_row I 40 F) 57 K) 58 (va_up N nt (nvC (I 2) (e - b) b (nI 0)))) 59 P) from (by rw [m_up_comm (by decide), m_up_r])]
  refine a_aload_n 2 dReader_takeNumber_64 rfl rfl ?_
  refine a_geta (r := 59) dReader_takeNumber_65 fl7_39 rfl ly_40 (by omega) (rf_40_14 hR) ?_
  refine a_aload_n 2 dReader_takeNumber_68 rfl rfl ?_
  refine a_geti dReader_takeNumber_69 fl7_124 rfl ly_40 (by omega) ?_
  rw [show (m_row (m_row (m_row (m_row I 40 F) 57 K) 58 (va_up N nt (nvC (I 2) (e - b) b (nI 0)))) 59 P) 40 15 = (nI nt) from hnt]
  refine a_aload_n 2 dReader_takeNumber_72 rfl rfl ?_
  refine a_geti dReader_takeNumber_73 fl7_63 rfl ly_40 (by omega) ?_
  rw [show (m_row (m_row (m_row (m_row I 40 F) 57 K) 58 (va_up N nt (nvC (I 2) (e - b) b (nI 0)))) 59 P) 40 8 = (nI b) from h8]
  refine a_iastN (a := nt) dReader_takeNumber_76 ly_59 (by omega) (by omega) (by decide) ?_
  rw [show m_up (m_row (m_row (m_row (m_row I 40 F) 57 K) 58 (va_up N nt (nvC (I 2) (e - b) b (nI 0)))) 59 P) 59 nt (nI b) = (m_row (m_row (m_row (m_row I 40 F) 57 K) 58 (va_up N nt (nvC (I 2) (e - b) b (nI 0)))) 59 (va_up P nt (nI b))) from (by rw [m_up_r])]
  refine a_aload_n 2 dReader_takeNumber_77 rfl rfl ?_
  refine a_dup dReader_takeNumber_78 rfl ?_
  refine a_geti dReader_takeNumber_79 fl7_124 rfl ly_40 (by omega) ?_
  rw [show (m_row (m_row (m_row (m_row I 40 F) 57 K) 58 (va_up N nt (nvC (I 2) (e - b) b (nI 0)))) 59 (va_up P nt (nI b))) 40 15 = (nI nt) from hnt]
  refine a_iconstN (a := 1) dReader_takeNumber_82 (by decide) ?_
  refine a_iaddN (a := nt) (b := 1) dReader_takeNumber_83 ?_
  refine a_puti dReader_takeNumber_84 fl7_124 rfl ly_40 (by omega) ?_
  rw [show m_up (m_row (m_row (m_row (m_row I 40 F) 57 K) 58 (va_up N nt (nvC (I 2) (e - b) b (nI 0)))) 59 (va_up P nt (nI b))) 40 15 (nI (nt + 1)) = (m_row (m_row (m_row (m_row I 40 (va_up F 15 (nI (nt + 1)))) 57 K) 58 (va_up N nt (nvC (I 2) (e - b) b (nI 0)))) 59 (va_up P nt (nI b))) from (by rw [m_up_comm (by decide), m_up_comm (by decide), m_up_comm (by decide), m_up_r])]
  refine a_iconstN (a := 1) dReader_takeNumber_87 (by decide) ?_
  exact a_zret dReader_takeNumber_88 rfl (by rfl) ⟨rfl, rfl, rfl, rfl⟩
