/-- a kind, or nothing -/
def kOK (x : Int32) : Prop := x = -1 ∨ ∃ a, a < 4 ∧ x = nI a
def kdN (I : mI) (ko l : Nat) : Nat := (oR I ko (19 + l)).toNatClampNeg
/-- every letter's kind is one -/
def WFk (I : mI) (ko : Nat) : Prop := ∀ l, l < 10 → oR I ko (19 + l) = nI (kdN I ko l) ∧ kdN I ko l < 4
theorem WFk.ok {I : mI} {ko : Nat} (h : WFk I ko) {l : Nat} (hl : l < 10) : kOK (oR I ko (19 + l)) := Or.inr ⟨_, (h l hl).2, (h l hl).1⟩
theorem kOK_m1 : kOK (-1) := Or.inl rfl
theorem c_M_doesBy {S : Nat × (Nat → Int32)} {d n : Nat} {I : mI} {J : mJ} {R : mR} {ko l : Nat} {x : Int32} (hn : 122 ≤ n) (hR : m_fin R) (ho : I 95 23 = nI ko) (hk : ko < 7) (hl : l < 10) (hW : WFk I ko) (hx : kOK x) : RUN S (d + 3) YM_doesBy [.ref 95, .int (nI l), .int x] I J R n (some (.int (dsR I ko l x))) I J R n := by
  rcases hx with rfl | ⟨a, ha, rfl⟩
  · exact c_M_doesBy0 hn hR ho hk hl (hW l hl).1 (hW l hl).2
  · exact c_M_doesByN hn hR ho hk hl (hW l hl).1 (hW l hl).2 ha
/-- the reference's begin() -/
def bgK (I : mI) (ko k : Nat) : mI := m_row (m_row (m_row I 107 (m_fill (fun h => oR I ko (3 + h)) (I 107) k)) 108 (m_fill (fun _ => -1) (I 108) k)) 109 (m_fill (fun _ => 0) (I 109) k)
abbrev bgI (I : mI) (ko : Nat) : mI := bgK I ko 6
theorem bgK_0 (I : mI) (ko : Nat) : bgK I ko 0 = I := by
  unfold bgK
  rw [m_fill_0, m_fill_0, m_fill_0, m_row_self, m_row_self, m_row_self]
theorem bgK_s (I : mI) (ko k : Nat) : m_up (m_up (m_up (bgK I ko k) 107 k (oR I ko (3 + k))) 108 k (-1)) 109 k 0 = bgK I ko (k + 1) := by
  unfold bgK
  rw [m_up_comm (by decide), m_up_comm (by decide), m_up_r, m_up_comm (by decide), m_up_r, m_up_r, ← m_fill_s, ← m_fill_s, ← m_fill_s]
theorem l_M_begin {S : Nat × (Nat → Int32)} {d n : Nat} {I : mI} {J : mJ} {R : mR} {ko : Nat} (hn : 122 ≤ n) (hR : m_fin R) (ho : I 95 23 = nI ko) (hk : ko < 7) {Q : Option Value → mI → mJ → mR → Prop} (hQ : Q none (bgI I ko) J R) : ∀ m k, k + m = 6 → AW S (d + 1) YM_begin n n Q 2 [(1, .int (nI k)), (0, .ref 95)] [] (bgK I ko k) J R n := by
  intro m
  induction m with
  | zero =>
    intro k hk
    rw [show k = 6 by omega]
    refine a_iload_n 0 dM_begin_2 rfl rfl ?_
    refine a_bipushN (a := 6) dM_begin_3 (by decide) ?_
    refine a_icmp_geN (tgt := 41) dM_begin_5 (by decide) (by omega) (by omega) (fun _ => ?_) (fun c => False.elim (by omega))
    exact a_vret dM_begin_41 rfl hQ
  | succ m ih =>
    intro k hk
    refine a_iload_n 0 dM_begin_2 rfl rfl ?_
    refine a_bipushN (a := 6) dM_begin_3 (by decide) ?_
    refine a_icmp_geN (tgt := 41) dM_begin_5 (by decide) (by omega) (by omega) (fun c => False.elim (by omega)) (fun _ => ?_)
    refine a_aload_n 1 dM_begin_8 rfl rfl ?_
    refine a_geta (r := 107) dM_begin_9 fl12_44 rfl ly_95 (by omega) (rf_95_27 hR) ?_
    refine a_iload_n 0 dM_begin_12 rfl rfl ?_
    refine a_aload_n 1 dM_begin_13 rfl rfl ?_
    refine a_iconstN (a := 3) dM_begin_14 (by decide) ?_
    refine a_iload_n 0 dM_begin_15 rfl rfl ?_
    refine a_iaddN (a := 3) (b := k) dM_begin_16 ?_
    refine a_callV (Q' := m_res (some (.int (oR I ko (3 + k)))) (bgK I ko k) J R) (as := [.int (nI (3 + k))]) (st := [.int (nI k), .ref 107]) dM_begin_17 ml12_255 rfl (Nat.le_of_ble_eq_true rfl) ly_95 rfl rfl (by decide) (by omega) (Nat.le_of_ble_eq_true rfl) rfl (Nat.le_refl _) (Nat.le_refl _) (c_M_of (ko := ko) (at0 := 3 + k) hn hR ho (by omega)) (m_go ?_)
    show AW _ _ _ _ _ _ _ _ [.int (oR I ko (3 + k)), .int (nI k), .ref 107] _ _ _ _
    refine a_iastN (a := k) dM_begin_20 ly_107 (by omega) (by omega) (by decide) ?_
    refine a_aload_n 1 dM_begin_21 rfl rfl ?_
    refine a_geta (r := 108) dM_begin_22 fl12_47 rfl ly_95 (by omega) (rf_95_28 hR) ?_
    refine a_iload_n 0 dM_begin_25 rfl rfl ?_
    refine a_iconst (v := -1) dM_begin_26 (by decide) ?_
    refine a_iastN (a := k) dM_begin_27 ly_108 (by omega) (by omega) (by decide) ?_
    refine a_aload_n 1 dM_begin_28 rfl rfl ?_
    refine a_geta (r := 109) dM_begin_29 fl12_50 rfl ly_95 (by omega) (rf_95_29 hR) ?_
    refine a_iload_n 0 dM_begin_32 rfl rfl ?_
    refine a_iconstN (a := 0) dM_begin_33 (by decide) ?_
    refine a_iastN (a := k) dM_begin_34 ly_109 (by omega) (by omega) (by decide) ?_
    refine a_iincN (lv' := [(1, .int (nI (k + 1))), (0, .ref 95)]) (j := 0) dM_begin_35 rfl (by decide) rfl ?_
    refine a_goto (tgt := 2) dM_begin_38 (by decide) ?_
    refine a_locs (lv' := [(1, .int (nI (k + 1))), (0, .ref 95)]) [0, 1] rfl ?_
    have hh := ih (k + 1) (by omega)
    rw [← bgK_s] at hh
    exact hh
theorem c_M_begin {S : Nat × (Nat → Int32)} {d n : Nat} {I : mI} {J : mJ} {R : mR} {ko : Nat} (hn : 122 ≤ n) (hR : m_fin R) (ho : I 95 23 = nI ko) (hk : ko < 7) : RUN S (d + 1) YM_begin [.ref 95] I J R n none (bgI I ko) J R n := by
  show AW S _ YM_begin n n _ 0 [(0, .ref 95)] [] I J R n
  refine a_iconstN (a := 0) dM_begin_0 (by decide) ?_
  refine a_istore_n (lv' := [(1, .int (nI 0)), (0, .ref 95)]) dM_begin_1 rfl (by decide) rfl ?_
  have hh := l_M_begin (S := S) (d := d) (J := J) (I := I) (ko := ko) (Q := m_res none (bgI I ko) J R) hn hR ho hk ⟨rfl, rfl, rfl, rfl⟩ 6 0 rfl
  rw [bgK_0] at hh
  exact hh
/-- the reference's hand(): an office at hand -/
def hdF (I : mI) (ko : Nat) : mI := m_up (m_up (m_up (m_up I 95 23 (nI ko)) 95 24 (oR I ko 0)) 95 25 (oR I ko 1)) 95 30 (-1)
def hdK (I : mI) (ko k : Nat) : mI := m_row (hdF I ko) 106 (m_fill (fun l => oR I ko (9 + l)) (I 106) k)
def hdI (I : mI) (ko : Nat) : mI := bgI (hdK I ko 10) ko
theorem hdK_0 (I : mI) (ko : Nat) : hdK I ko 0 = hdF I ko := by
  unfold hdK
  rw [m_fill_0]
  have e : I 106 = hdF I ko 106 := rfl
  rw [e, m_row_self]
theorem hdK_s (I : mI) (ko k : Nat) : m_up (hdK I ko k) 106 k (oR I ko (9 + k)) = hdK I ko (k + 1) := by
  unfold hdK
  rw [m_up_r, ← m_fill_s]
theorem l_M_hand {S : Nat × (Nat → Int32)} {d n : Nat} {I : mI} {J : mJ} {R : mR} {ko : Nat} (hn : 122 ≤ n) (hR : m_fin R) (hk : ko < 7) {Q : Option Value → mI → mJ → mR → Prop} (hQ : Q (some (.int 1)) (hdI I ko) J R) : ∀ m k, k + m = 10 → AW S (d + 2) YM_hand n n Q 41 [(2, .int (nI k)), (0, .ref 95), (1, .int (nI ko))] [] (hdK I ko k) J R n := by
  intro m
  induction m with
  | zero =>
    intro k hk
    rw [show k = 10 by omega]
    refine a_iload_n 0 dM_hand_41 rfl rfl ?_
    refine a_bipushN (a := 10) dM_hand_42 (by decide) ?_
    refine a_icmp_geN (tgt := 67) dM_hand_44 (by decide) (by omega) (by omega) (fun _ => ?_) (fun c => False.elim (by omega))
    refine a_aload_n 1 dM_hand_67 rfl rfl ?_
    refine a_callV (Q' := m_res none (bgI (hdK I ko 10) ko) J R) (as := []) (st := []) dM_hand_68 ml12_268 rfl (Nat.le_of_ble_eq_true rfl) ly_95 rfl rfl (by decide) (by omega) (Nat.le_of_ble_eq_true rfl) rfl (Nat.le_refl _) (Nat.le_refl _) (c_M_begin (ko := ko) hn hR rfl (by omega)) (m_go ?_)
    show AW _ _ _ _ _ _ _ _ [] _ _ _ _
    refine a_iconstN (a := 1) dM_hand_71 (by decide) ?_
    exact a_zret dM_hand_72 rfl (by rfl) hQ
  | succ m ih =>
    intro k hk
    refine a_iload_n 0 dM_hand_41 rfl rfl ?_
    refine a_bipushN (a := 10) dM_hand_42 (by decide) ?_
    refine a_icmp_geN (tgt := 67) dM_hand_44 (by decide) (by omega) (by omega) (fun c => False.elim (by omega)) (fun _ => ?_)
    refine a_aload_n 1 dM_hand_47 rfl rfl ?_
    refine a_geta (r := 106) dM_hand_48 fl12_41 rfl ly_95 (by omega) (rf_95_26 hR) ?_
    refine a_iload_n 0 dM_hand_51 rfl rfl ?_
    refine a_aload_n 1 dM_hand_52 rfl rfl ?_
    refine a_bipushN (a := 9) dM_hand_53 (by decide) ?_
    refine a_iload_n 0 dM_hand_55 rfl rfl ?_
    refine a_iaddN (a := 9) (b := k) dM_hand_56 ?_
    refine a_callV (Q' := m_res (some (.int (oR I ko (9 + k)))) (hdK I ko k) J R) (as := [.int (nI (9 + k))]) (st := [.int (nI k), .ref 106]) dM_hand_57 ml12_255 rfl (Nat.le_of_ble_eq_true rfl) ly_95 rfl rfl (by decide) (by omega) (Nat.le_of_ble_eq_true rfl) rfl (Nat.le_refl _) (Nat.le_refl _) (c_M_of (ko := ko) (at0 := 9 + k) hn hR rfl (by omega)) (m_go ?_)
    show AW _ _ _ _ _ _ _ _ [.int (oR I ko (9 + k)), .int (nI k), .ref 106] _ _ _ _
    refine a_iastN (a := k) dM_hand_60 ly_106 (by omega) (by omega) (by decide) ?_
    refine a_iincN (lv' := [(2, .int (nI (k + 1))), (0, .ref 95), (1, .int (nI ko))]) (j := 0) dM_hand_61 rfl (by decide) rfl ?_
    refine a_goto (tgt := 41) dM_hand_64 (by decide) ?_
    refine a_locs (lv' := [(2, .int (nI (k + 1))), (0, .ref 95), (1, .int (nI ko))]) [0, 1, 2] rfl ?_
    have hh := ih (k + 1) (by omega)
    rw [← hdK_s] at hh
    exact hh
theorem c_M_hand {S : Nat × (Nat → Int32)} {d n : Nat} {I : mI} {J : mJ} {R : mR} {ko : Nat} (hn : 122 ≤ n) (hR : m_fin R) (hk : ko < 7) (h1 : f_in (nI ko) 0 (I 100 0 - 1) = 1) : RUN S (d + 2) YM_hand [.ref 95, .int (nI ko)] I J R n (some (.int 1)) (hdI I ko) J R n := by
  show AW S _ YM_hand n n _ 0 [(0, .ref 95), (1, .int (nI ko))] [] I J R n
  refine a_aload_n 0 dM_hand_0 rfl rfl ?_
  refine a_iconstN (a := 0) dM_hand_1 (by decide) ?_
  refine a_iload_n 1 dM_hand_2 rfl rfl ?_
  refine a_callV (Q' := m_res (some (.int (f_in (nI ko) 0 (I 100 0 - 1)))) I J R) (as := [.int (nI 0), .int (nI ko)]) (st := []) dM_hand_3 ml12_242 rfl (Nat.le_of_ble_eq_true rfl) ly_95 rfl rfl (by decide) (by omega) (Nat.le_of_ble_eq_true rfl) rfl (Nat.le_refl _) (Nat.le_refl _) (c_M_is (s := 0) hn hR (by omega)) (m_go ?_)
  show AW _ _ _ _ _ _ _ _ [.int (f_in (nI ko) 0 (I 100 0 - 1))] _ _ _ _
  refine a_if_ne (tgt := 11) dM_hand_6 (by decide) (fun _ => ?_) (fun c => False.elim (by rw [h1] at c; exact absurd c (by decide)))
  refine a_aload_n 0 dM_hand_11 rfl rfl ?_
  refine a_iload_n 1 dM_hand_12 rfl rfl ?_
  refine a_puti dM_hand_13 fl12_252 rfl ly_95 (by omega) ?_
  refine a_aload_n 0 dM_hand_16 rfl rfl ?_
  refine a_aload_n 0 dM_hand_17 rfl rfl ?_
  refine a_iconstN (a := 0) dM_hand_18 (by decide) ?_
  refine a_callV (Q' := m_res (some (.int (oR I ko 0))) (m_up I 95 23 (nI ko)) J R) (as := [.int (nI 0)]) (st := [.ref 95]) dM_hand_19 ml12_255 rfl (Nat.le_of_ble_eq_true rfl) ly_95 rfl rfl (by decide) (by omega) (Nat.le_of_ble_eq_true rfl) rfl (Nat.le_refl _) (Nat.le_refl _) (c_M_of (ko := ko) (at0 := 0) hn hR rfl (by omega)) (m_go ?_)
  show AW _ _ _ _ _ _ _ _ [.int (oR I ko 0), .ref 95] _ _ _ _
  refine a_puti dM_hand_22 fl12_259 rfl ly_95 (by omega) ?_
  refine a_aload_n 0 dM_hand_25 rfl rfl ?_
  refine a_aload_n 0 dM_hand_26 rfl rfl ?_
  refine a_iconstN (a := 1) dM_hand_27 (by decide) ?_
  refine a_callV (Q' := m_res (some (.int (oR I ko 1))) (m_up (m_up I 95 23 (nI ko)) 95 24 (oR I ko 0)) J R) (as := [.int (nI 1)]) (st := [.ref 95]) dM_hand_28 ml12_255 rfl (Nat.le_of_ble_eq_true rfl) ly_95 rfl rfl (by decide) (by omega) (Nat.le_of_ble_eq_true rfl) rfl (Nat.le_refl _) (Nat.le_refl _) (c_M_of (ko := ko) (at0 := 1) hn hR rfl (by omega)) (m_go ?_)
  show AW _ _ _ _ _ _ _ _ [.int (oR I ko 1), .ref 95] _ _ _ _
  refine a_puti dM_hand_31 fl12_262 rfl ly_95 (by omega) ?_
  refine a_aload_n 0 dM_hand_34 rfl rfl ?_
  refine a_iconst (v := -1) dM_hand_35 (by decide) ?_
  refine a_puti dM_hand_36 fl12_265 rfl ly_95 (by omega) ?_
  refine a_iconstN (a := 0) dM_hand_39 (by decide) ?_
  refine a_istore_n (lv' := [(2, .int (nI 0)), (0, .ref 95), (1, .int (nI ko))]) dM_hand_40 rfl (by decide) rfl ?_
  have hh := l_M_hand (S := S) (d := d) (J := J) (I := I) (ko := ko) (Q := m_res (some (.int 1)) (hdI I ko) J R) hn hR hk ⟨rfl, rfl, rfl, rfl⟩ 10 0 rfl
  rw [hdK_0] at hh
  refine a_locs (lv' := [(2, .int (nI 0)), (0, .ref 95), (1, .int (nI ko))]) [0, 1, 2] rfl ?_
  exact hh
theorem c_M_hand0 {S : Nat × (Nat → Int32)} {d n : Nat} {I : mI} {J : mJ} {R : mR} {k : Int32} (hn : 122 ≤ n) (hR : m_fin R) (h0 : f_in k 0 (I 100 0 - 1) = 0) : RUN S (d + 2) YM_hand [.ref 95, .int k] I J R n (some (.int 0)) I J R n := by
  show AW S _ YM_hand n n _ 0 [(0, .ref 95), (1, .int k)] [] I J R n
  refine a_aload_n 0 dM_hand_0 rfl rfl ?_
  refine a_iconstN (a := 0) dM_hand_1 (by decide) ?_
  refine a_iload_n 1 dM_hand_2 rfl rfl ?_
  refine a_callV (Q' := m_res (some (.int (f_in k 0 (I 100 0 - 1)))) I J R) (as := [.int (nI 0), .int k]) (st := []) dM_hand_3 ml12_242 rfl (Nat.le_of_ble_eq_true rfl) ly_95 rfl rfl (by decide) (by omega) (Nat.le_of_ble_eq_true rfl) rfl (Nat.le_refl _) (Nat.le_refl _) (c_M_is (s := 0) hn hR (by omega)) (m_go ?_)
  show AW _ _ _ _ _ _ _ _ [.int (f_in k 0 (I 100 0 - 1))] _ _ _ _
  refine a_if_ne (tgt := 11) dM_hand_6 (by decide) (fun c => False.elim (c h0)) (fun _ => ?_)
  refine a_iconstN (a := 0) dM_hand_9 (by decide) ?_
  exact a_zret dM_hand_10 rfl (by rfl) ⟨rfl, rfl, rfl, rfl⟩
def ltsN (hm : Nat → Int32) (h : Int32) : Nat → Int32
  | 0 => 0
  | k + 1 => ltsN hm h k ||| (if hm k = h then 1 <<< (nI k &&& 31) else 0)
theorem l_M_lettersOf {S : Nat × (Nat → Int32)} {d n : Nat} {I : mI} {J : mJ} {R : mR} {nl : Nat} {h : Int32} (hn : 122 ≤ n) (hR : m_fin R) (hl : I 95 25 = nI nl) (hnl : nl ≤ 10) {Q : Option Value → mI → mJ → mR → Prop} (hQ : Q (some (.int (ltsN (I 106) h nl))) I J R) : ∀ m k, k + m = nl → AW S d YM_lettersOf n n Q 4 [(3, .int (nI k)), (2, .int (ltsN (I 106) h k)), (0, .ref 95), (1, .int h)] [] I J R n := by
  intro m
  induction m with
  | zero =>
    intro k hk
    rw [show k = nl by omega]
    refine a_iload_n 0 dM_lettersOf_4 rfl rfl ?_
    refine a_aload_n 2 dM_lettersOf_5 rfl rfl ?_
    refine a_geti dM_lettersOf_6 fl12_262 rfl ly_95 (by omega) ?_
    rw [show I 95 25 = (nI nl) from hl]
    refine a_icmp_geN (tgt := 38) dM_lettersOf_9 (by decide) (by omega) (by omega) (fun _ => ?_) (fun c => False.elim (by omega))
    refine a_iload_n 1 dM_lettersOf_38 rfl rfl ?_
    exact a_iret dM_lettersOf_39 rfl hQ
  | succ m ih =>
    intro k hk
    refine a_iload_n 0 dM_lettersOf_4 rfl rfl ?_
    refine a_aload_n 2 dM_lettersOf_5 rfl rfl ?_
    refine a_geti dM_lettersOf_6 fl12_262 rfl ly_95 (by omega) ?_
    rw [show I 95 25 = (nI nl) from hl]
    refine a_icmp_geN (tgt := 38) dM_lettersOf_9 (by decide) (by omega) (by omega) (fun c => False.elim (by omega)) (fun _ => ?_)
    refine a_iload_n 1 dM_lettersOf_12 rfl rfl ?_
    refine a_aload_n 2 dM_lettersOf_13 rfl rfl ?_
    refine a_geta (r := 106) dM_lettersOf_14 fl12_41 rfl ly_95 (by omega) (rf_95_26 hR) ?_
    refine a_iload_n 0 dM_lettersOf_17 rfl rfl ?_
    refine a_ialdN (a := k) dM_lettersOf_18 ly_106 (by omega) (by omega) (by decide) ?_
    refine a_iload_n 3 dM_lettersOf_19 rfl rfl ?_
    refine a_icmp_ne (tgt := 29) dM_lettersOf_20 (by decide) (fun c20 => ?_) (fun c20 => ?_)
    · refine a_iconstN (a := 0) dM_lettersOf_29 (by decide) ?_
      refine a_ior dM_lettersOf_30 ?_
      refine a_istore_n (lv' := [(2, .int ((ltsN (I 106) h k) ||| (nI 0))), (3, .int (nI k)), (0, .ref 95), (1, .int h)]) dM_lettersOf_31 rfl (by decide) rfl ?_
      refine a_iincN (lv' := [(3, .int (nI (k + 1))), (2, .int ((ltsN (I 106) h k) ||| (nI 0))), (0, .ref 95), (1, .int h)]) (j := 1) dM_lettersOf_32 rfl (by decide) rfl ?_
      refine a_goto (tgt := 4) dM_lettersOf_35 (by decide) ?_
      refine a_locs (lv' := [(3, .int (nI (k + 1))), (2, .int ((ltsN (I 106) h k) ||| (nI 0))), (0, .ref 95), (1, .int h)]) [0, 1, 2, 3] rfl ?_
      have hh := ih (k + 1) (by omega)
      rw [show ltsN (I 106) h (k + 1) = (ltsN (I 106) h k ||| _) from by simp only [ltsN, c20, if_true, if_false]; try rfl] at hh
      exact hh
    · refine a_iconstN (a := 1) dM_lettersOf_23 (by decide) ?_
      refine a_iload_n 0 dM_lettersOf_24 rfl rfl ?_
      refine a_ishl dM_lettersOf_25 ?_
      refine a_goto (tgt := 30) dM_lettersOf_26 (by decide) ?_
      refine a_ior dM_lettersOf_30 ?_
      refine a_istore_n (lv' := [(2, .int ((ltsN (I 106) h k) ||| ((nI 1) <<< ((nI k) &&& 31)))), (3, .int (nI k)), (0, .ref 95), (1, .int h)]) dM_lettersOf_31 rfl (by decide) rfl ?_
      refine a_iincN (lv' := [(3, .int (nI (k + 1))), (2, .int ((ltsN (I 106) h k) ||| ((nI 1) <<< ((nI k) &&& 31)))), (0, .ref 95), (1, .int h)]) (j := 1) dM_lettersOf_32 rfl (by decide) rfl ?_
      refine a_goto (tgt := 4) dM_lettersOf_35 (by decide) ?_
      refine a_locs (lv' := [(3, .int (nI (k + 1))), (2, .int ((ltsN (I 106) h k) ||| ((nI 1) <<< ((nI k) &&& 31)))), (0, .ref 95), (1, .int h)]) [0, 1, 2, 3] rfl ?_
      have hh := ih (k + 1) (by omega)
      rw [show ltsN (I 106) h (k + 1) = (ltsN (I 106) h k ||| _) from by simp only [ltsN, c20, if_true, if_false]; try rfl] at hh
      exact hh
theorem c_M_lettersOf {S : Nat × (Nat → Int32)} {d n : Nat} {I : mI} {J : mJ} {R : mR} {nl : Nat} {h : Int32} (hn : 122 ≤ n) (hR : m_fin R) (hl : I 95 25 = nI nl) (hnl : nl ≤ 10) : RUN S d YM_lettersOf [.ref 95, .int h] I J R n (some (.int (ltsN (I 106) h nl))) I J R n := by
  show AW S _ YM_lettersOf n n _ 0 [(0, .ref 95), (1, .int h)] [] I J R n
  refine a_iconstN (a := 0) dM_lettersOf_0 (by decide) ?_
  refine a_istore_n (lv' := [(2, .int (nI 0)), (0, .ref 95), (1, .int h)]) dM_lettersOf_1 rfl (by decide) rfl ?_
  refine a_iconstN (a := 0) dM_lettersOf_2 (by decide) ?_
  refine a_istore_n (lv' := [(3, .int (nI 0)), (2, .int (nI 0)), (0, .ref 95), (1, .int h)]) dM_lettersOf_3 rfl (by decide) rfl ?_
  refine a_locs (lv' := [(3, .int (nI 0)), (2, .int (nI 0)), (0, .ref 95), (1, .int h)]) [0, 1, 2, 3] rfl ?_
  exact l_M_lettersOf hn hR hl hnl ⟨rfl, rfl, rfl, rfl⟩ nl 0 (by omega)
