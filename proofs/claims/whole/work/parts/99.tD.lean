theorem tkW_0 {T : Nat → Int32} {len p : Nat} (hp : p ≤ len) (h : tkS T len p = 1) : lg_cmp (tkW T len p) 114827921155443 = 0 ↔ iwP T (tkS T len p) (tkB T len p) (tkE T len p) 0 := by
  rw [lg_cmp_eq]
  exact tkW_iff (i := 0) (w := 114827921155443) hp h (by decide) (by decide) (by decide +kernel) (by decide)
theorem tkW_1 {T : Nat → Int32} {len p : Nat} (hp : p ≤ len) (h : tkS T len p = 1) : lg_cmp (tkW T len p) 1836019556 = 0 ↔ iwP T (tkS T len p) (tkB T len p) (tkE T len p) 1 := by
  rw [lg_cmp_eq]
  exact tkW_iff (i := 1) (w := 1836019556) hp h (by decide) (by decide) (by decide +kernel) (by decide)
theorem tkW_2 {T : Nat → Int32} {len p : Nat} (hp : p ≤ len) (h : tkS T len p = 1) : lg_cmp (tkW T len p) 119183001281906 = 0 ↔ iwP T (tkS T len p) (tkB T len p) (tkE T len p) 2 := by
  rw [lg_cmp_eq]
  exact tkW_iff (i := 2) (w := 119183001281906) hp h (by decide) (by decide) (by decide +kernel) (by decide)
theorem tkW_3 {T : Nat → Int32} {len p : Nat} (hp : p ≤ len) (h : tkS T len p = 1) : lg_cmp (tkW T len p) 7102839 = 0 ↔ iwP T (tkS T len p) (tkB T len p) (tkE T len p) 3 := by
  rw [lg_cmp_eq]
  exact tkW_iff (i := 3) (w := 7102839) hp h (by decide) (by decide) (by decide +kernel) (by decide)
theorem tkW_4 {T : Nat → Int32} {len p : Nat} (hp : p ≤ len) (h : tkS T len p = 1) : lg_cmp (tkW T len p) 469920277619 = 0 ↔ iwP T (tkS T len p) (tkB T len p) (tkE T len p) 4 := by
  rw [lg_cmp_eq]
  exact tkW_iff (i := 4) (w := 469920277619) hp h (by decide) (by decide) (by decide +kernel) (by decide)
theorem tkW_5 {T : Nat → Int32} {len p : Nat} (hp : p ≤ len) (h : tkS T len p = 1) : lg_cmp (tkW T len p) 1734964837 = 0 ↔ iwP T (tkS T len p) (tkB T len p) (tkE T len p) 5 := by
  rw [lg_cmp_eq]
  exact tkW_iff (i := 5) (w := 1734964837) hp h (by decide) (by decide) (by decide +kernel) (by decide)
theorem tkW_6 {T : Nat → Int32} {len p : Nat} (hp : p ≤ len) (h : tkS T len p = 1) : lg_cmp (tkW T len p) 1936484720 = 0 ↔ iwP T (tkS T len p) (tkB T len p) (tkE T len p) 6 := by
  rw [lg_cmp_eq]
  exact tkW_iff (i := 6) (w := 1936484720) hp h (by decide) (by decide) (by decide +kernel) (by decide)
theorem tkW_7 {T : Nat → Int32} {len p : Nat} (hp : p ≤ len) (h : tkS T len p = 1) : lg_cmp (tkW T len p) 1651864174 = 0 ↔ iwP T (tkS T len p) (tkB T len p) (tkE T len p) 7 := by
  rw [lg_cmp_eq]
  exact tkW_iff (i := 7) (w := 1651864174) hp h (by decide) (by decide) (by decide +kernel) (by decide)
theorem tkW_8 {T : Nat → Int32} {len p : Nat} (hp : p ≤ len) (h : tkS T len p = 1) : lg_cmp (tkW T len p) 474214787188 = 0 ↔ iwP T (tkS T len p) (tkB T len p) (tkE T len p) 8 := by
  rw [lg_cmp_eq]
  exact tkW_iff (i := 8) (w := 474214787188) hp h (by decide) (by decide) (by decide +kernel) (by decide)
theorem tkW_15 {T : Nat → Int32} {len p : Nat} (hp : p ≤ len) (h : tkS T len p = 1) : lg_cmp (tkW T len p) 6975353 = 0 ↔ iwP T (tkS T len p) (tkB T len p) (tkE T len p) 15 := by
  rw [lg_cmp_eq]
  exact tkW_iff (i := 15) (w := 6975353) hp h (by decide) (by decide) (by decide +kernel) (by decide)
theorem tkW_16 {T : Nat → Int32} {len p : Nat} (hp : p ≤ len) (h : tkS T len p = 1) : lg_cmp (tkW T len p) 1651273591 = 0 ↔ iwP T (tkS T len p) (tkB T len p) (tkE T len p) 16 := by
  rw [lg_cmp_eq]
  exact tkW_iff (i := 16) (w := 1651273591) hp h (by decide) (by decide) (by decide +kernel) (by decide)
theorem tkW_17 {T : Nat → Int32} {len p : Nat} (hp : p ≤ len) (h : tkS T len p = 1) : lg_cmp (tkW T len p) 470020941177 = 0 ↔ iwP T (tkS T len p) (tkB T len p) (tkE T len p) 17 := by
  rw [lg_cmp_eq]
  exact tkW_iff (i := 17) (w := 470020941177) hp h (by decide) (by decide) (by decide +kernel) (by decide)
theorem tkW_18 {T : Nat → Int32} {len p : Nat} (hp : p ≤ len) (h : tkS T len p = 1) : lg_cmp (tkW T len p) 31084793196801639 = 0 ↔ iwP T (tkS T len p) (tkB T len p) (tkE T len p) 18 := by
  rw [lg_cmp_eq]
  exact tkW_iff (i := 18) (w := 31084793196801639) hp h (by decide) (by decide) (by decide +kernel) (by decide)
theorem iwV_t {T : Nat → Int32} {s b e i : Nat} (h : iwP T s b e i) : ¬ iwV T s b e i = 0 := by
  unfold iwV; rw [if_pos h]; decide
theorem iwV_f {T : Nat → Int32} {s b e i : Nat} (h : ¬ iwP T s b e i) : iwV T s b e i = 0 := by
  unfold iwV; rw [if_neg h]
theorem kI_n {T : Nat → Int32} {len p : Nat} (h : ¬ tkS T len p = 1) : kI T len p = -1 := by
  show khC T (tkS T len p) (tkB T len p) (tkE T len p) = -1
  unfold khC
  rw [if_pos (iwV_f (fun q => h q.1)), if_pos (iwV_f (fun q => h q.1)), if_pos (iwV_f (fun q => h q.1)), if_pos (iwV_f (fun q => h q.1))]
abbrev iwT (T : Nat → Int32) (len p i : Nat) : Prop := iwP T (tkS T len p) (tkB T len p) (tkE T len p) i
theorem kI_c {T : Nat → Int32} {len p : Nat} : (iwT T len p 15 ∧ kI T len p = nI 0) ∨ (¬ iwT T len p 15 ∧ iwT T len p 16 ∧ kI T len p = nI 1) ∨ (¬ iwT T len p 15 ∧ ¬ iwT T len p 16 ∧ iwT T len p 17 ∧ kI T len p = nI 2) ∨ (¬ iwT T len p 15 ∧ ¬ iwT T len p 16 ∧ ¬ iwT T len p 17 ∧ iwT T len p 18 ∧ kI T len p = nI 3) ∨ (¬ iwT T len p 15 ∧ ¬ iwT T len p 16 ∧ ¬ iwT T len p 17 ∧ ¬ iwT T len p 18 ∧ kI T len p = -1) := by
  have hk : kI T len p = khC T (tkS T len p) (tkB T len p) (tkE T len p) := rfl
  unfold khC at hk
  by_cases a : iwT T len p 15
  · rw [if_neg (iwV_t a)] at hk; exact Or.inl ⟨a, hk⟩
  · rw [if_pos (iwV_f a)] at hk
    by_cases b : iwT T len p 16
    · rw [if_neg (iwV_t b)] at hk; exact Or.inr (Or.inl ⟨a, b, hk⟩)
    · rw [if_pos (iwV_f b)] at hk
      by_cases c : iwT T len p 17
      · rw [if_neg (iwV_t c)] at hk; exact Or.inr (Or.inr (Or.inl ⟨a, b, c, hk⟩))
      · rw [if_pos (iwV_f c)] at hk
        by_cases d : iwT T len p 18
        · rw [if_neg (iwV_t d)] at hk; exact Or.inr (Or.inr (Or.inr (Or.inl ⟨a, b, c, d, hk⟩)))
        · rw [if_pos (iwV_f d)] at hk; exact Or.inr (Or.inr (Or.inr (Or.inr ⟨a, b, c, d, hk⟩)))
theorem r_takeKind0 {S : Nat × (Nat → Int32)} {d n : Nat} {I : mI} {J : mJ} {R : mR} (hn : 122 ≤ n) (hR : m_fin R) {len : Nat} (hl6 : len ≤ 600) (hby : byT (I 96) len) {p : Nat} (hp : p ≤ len) {x : Nat × Nat} {gh gl g : Int32} {F D A : Nat → Int32} (hS : RS (I 96) len p x gh gl g F) {k : Nat} (h : kI (I 96) len p = -1) : AW S (d + 2) YM_takeKind n n (tq0 I J R (tkB (I 96) len p) D A) 0 [(0, .ref 95), (1, .int (nI k))] [] (m_row (m_row (m_row I 95 F) 104 D) 105 A) (m_up J 95 14 (tkW (I 96) len p)) R n := by
  have hz4 := rsS_le (s := tkS (I 96) len p)
  by_cases s : tkS (I 96) len p = 1
  · have h12 : F 12 = nI 2 := by rw [hS.h12, rsS_2.mpr s]
    rcases kI_c (T := I 96) (len := len) (p := p) with ⟨_, q⟩ | ⟨_, _, q⟩ | ⟨_, _, _, q⟩ | ⟨_, _, _, _, q⟩ | ⟨n15, n16, n17, n18, q⟩
    · exact absurd (q.symm.trans h) (by decide)
    · exact absurd (q.symm.trans h) (by decide)
    · exact absurd (q.symm.trans h) (by decide)
    · exact absurd (q.symm.trans h) (by decide)
    ·
      refine a_aload_n 0 dM_takeKind_0 rfl rfl ?_
      refine a_geti dM_takeKind_1 fl12_127 rfl ly_95 (by omega) ?_
      rw [show (m_row (m_row (m_row I 95 F) 104 D) 105 A) 95 12 = (nI 2) from h12]
      refine a_iconstN (a := 2) dM_takeKind_4 (by decide) ?_
      refine a_icmp_eqN (tgt := 12) dM_takeKind_5 (by decide) (by omega) (by omega) (fun _ => ?_) (fun c => False.elim (by omega))
      refine a_aload_n 0 dM_takeKind_12 rfl rfl ?_
      refine a_getl dM_takeKind_13 fl12_123 rfl ly_95 (by omega) ?_
      rw [show (m_up J 95 14 (tkW (I 96) len p)) 95 14 = (tkW (I 96) len p) from by rfl]
      refine a_ldc2 (v := 6975353) dM_takeKind_16 cn12_174 ?_
      refine a_lcmp dM_takeKind_19 ?_
      refine a_if_ne (tgt := 27) dM_takeKind_20 (by decide) (fun _ => ?_) (fun c => False.elim (n15 ((tkW_15 hp s).mp c)))
      refine a_aload_n 0 dM_takeKind_27 rfl rfl ?_
      refine a_getl dM_takeKind_28 fl12_123 rfl ly_95 (by omega) ?_
      rw [show (m_up J 95 14 (tkW (I 96) len p)) 95 14 = (tkW (I 96) len p) from by rfl]
      refine a_ldc2 (v := 1651273591) dM_takeKind_31 cn12_176 ?_
      refine a_lcmp dM_takeKind_34 ?_
      refine a_if_ne (tgt := 42) dM_takeKind_35 (by decide) (fun _ => ?_) (fun c => False.elim (n16 ((tkW_16 hp s).mp c)))
      refine a_aload_n 0 dM_takeKind_42 rfl rfl ?_
      refine a_getl dM_takeKind_43 fl12_123 rfl ly_95 (by omega) ?_
      rw [show (m_up J 95 14 (tkW (I 96) len p)) 95 14 = (tkW (I 96) len p) from by rfl]
      refine a_ldc2 (v := 470020941177) dM_takeKind_46 cn12_178 ?_
      refine a_lcmp dM_takeKind_49 ?_
      refine a_if_ne (tgt := 57) dM_takeKind_50 (by decide) (fun _ => ?_) (fun c => False.elim (n17 ((tkW_17 hp s).mp c)))
      refine a_aload_n 0 dM_takeKind_57 rfl rfl ?_
      refine a_getl dM_takeKind_58 fl12_123 rfl ly_95 (by omega) ?_
      rw [show (m_up J 95 14 (tkW (I 96) len p)) 95 14 = (tkW (I 96) len p) from by rfl]
      refine a_ldc2 (v := 31084793196801639) dM_takeKind_61 cn12_180 ?_
      refine a_lcmp dM_takeKind_64 ?_
      refine a_if_ne (tgt := 72) dM_takeKind_65 (by decide) (fun _ => ?_) (fun c => False.elim (n18 ((tkW_18 hp s).mp c)))
      refine a_iconst (v := -1) dM_takeKind_72 (by decide) ?_
      refine a_istore_n (lv' := [(2, .int (-1)), (0, .ref 95), (1, .int (nI k))]) dM_takeKind_73 rfl (by decide) rfl ?_
      refine a_iload_n 0 dM_takeKind_74 rfl rfl ?_
      refine a_iconst (v := -1) dM_takeKind_75 (by decide) ?_
      refine a_icmp_ne (tgt := 84) dM_takeKind_76 (by decide) (fun c => False.elim (c rfl)) (fun _ => ?_)
      refine a_aload_n 1 dM_takeKind_79 rfl rfl ?_
      refine a_callV (Q' := m_res (some (.int 0)) (mRd I (va_up F 15 (F 11)) D A) (m_up J 95 14 (tkW (I 96) len p)) R) (as := []) (st := []) dM_takeKind_80 ml12_142 rfl (Nat.le_of_ble_eq_true rfl) ly_95 rfl rfl (by decide) (by omega) (Nat.le_of_ble_eq_true rfl) rfl (Nat.le_refl _) (Nat.le_refl _) (c_fails hn hR) (m_go ?_)
      show AW _ _ _ _ _ _ _ _ [.int 0] _ _ _ _
      exact a_zret dM_takeKind_83 rfl (by rfl) ⟨rfl, ⟨_, rfl⟩, rfl, _, hS.h11, rfl⟩
  · have hz : rsS (tkS (I 96) len p) ≠ 2 := fun q => s (rsS_2.mp q)
    refine a_aload_n 0 dM_takeKind_0 rfl rfl ?_
    refine a_geti dM_takeKind_1 fl12_127 rfl ly_95 (by omega) ?_
    rw [show (m_row (m_row (m_row I 95 F) 104 D) 105 A) 95 12 = (nI (rsS (tkS (I 96) len p))) from hS.h12]
    refine a_iconstN (a := 2) dM_takeKind_4 (by decide) ?_
    refine a_icmp_eqN (tgt := 12) dM_takeKind_5 (by decide) (by omega) (by omega) (fun c => False.elim (by omega)) (fun _ => ?_)
    refine a_iconst (v := -1) dM_takeKind_8 (by decide) ?_
    refine a_goto (tgt := 73) dM_takeKind_9 (by decide) ?_
    refine a_istore_n (lv' := [(2, .int (-1)), (0, .ref 95), (1, .int (nI k))]) dM_takeKind_73 rfl (by decide) rfl ?_
    refine a_iload_n 0 dM_takeKind_74 rfl rfl ?_
    refine a_iconst (v := -1) dM_takeKind_75 (by decide) ?_
    refine a_icmp_ne (tgt := 84) dM_takeKind_76 (by decide) (fun c => False.elim (c rfl)) (fun _ => ?_)
    refine a_aload_n 1 dM_takeKind_79 rfl rfl ?_
    refine a_callV (Q' := m_res (some (.int 0)) (mRd I (va_up F 15 (F 11)) D A) (m_up J 95 14 (tkW (I 96) len p)) R) (as := []) (st := []) dM_takeKind_80 ml12_142 rfl (Nat.le_of_ble_eq_true rfl) ly_95 rfl rfl (by decide) (by omega) (Nat.le_of_ble_eq_true rfl) rfl (Nat.le_refl _) (Nat.le_refl _) (c_fails hn hR) (m_go ?_)
    show AW _ _ _ _ _ _ _ _ [.int 0] _ _ _ _
    exact a_zret dM_takeKind_83 rfl (by rfl) ⟨rfl, ⟨_, rfl⟩, rfl, _, hS.h11, rfl⟩
theorem r_takeKind1 {S : Nat × (Nat → Int32)} {d n : Nat} {I : mI} {J : mJ} {R : mR} (hn : 122 ≤ n) (hR : m_fin R) {len : Nat} (hl6 : len ≤ 600) (hby : byT (I 96) len) {p : Nat} (hp : p ≤ len) {x : Nat × Nat} {gh gl g : Int32} {F D A : Nat → Int32} (hS : RS (I 96) len p x gh gl g F) {k : Nat} (hk : k < 3) (h : ¬ kI (I 96) len p = -1) : AW S (d + 2) YM_takeKind n n (tq1 I J R len (tkE (I 96) len p) x gh gl g D (va_up A k (nI (kN (I 96) len p)))) 0 [(0, .ref 95), (1, .int (nI k))] [] (m_row (m_row (m_row I 95 F) 104 D) 105 A) (m_up J 95 14 (tkW (I 96) len p)) R n := by
  have hb := tkB_le (T := I 96) hp
  have he := tkE_le (T := I 96) hp
  have s : tkS (I 96) len p = 1 := Classical.byContradiction (fun q => h (kI_n q))
  have h12 : F 12 = nI 2 := by rw [hS.h12, rsS_2.mpr s]
  have hf : ∀ j, j < 4 → kI (I 96) len p = nI j → tq1 I J R len (tkE (I 96) len p) x gh gl g D (va_up A k (nI (kN (I 96) len p))) (some (.int 1)) (mRd I (tkG (I 96) len (tkE (I 96) len p) F) D (va_up A k (nI j))) (m_up J 95 14 (tkW (I 96) len (tkE (I 96) len p))) R := fun j hj q => by
    rw [show kN (I 96) len p = j by unfold kN; rw [q]; exact nI_clamp (by omega)]
    exact ⟨rfl, rfl, rfl, _, RS_tk hby he.2 hS.h10 hS.f5 hS.h16 hS.h17 (fun z => Nat.lt_of_lt_of_le (hS.hlp z) (Nat.le_trans hb.1 he.1)) hS.h20 hS.h21 hS.h22, rfl⟩
  rcases kI_c (T := I 96) (len := len) (p := p) with ⟨y15, q⟩ | ⟨n15, y16, q⟩ | ⟨n15, n16, y17, q⟩ | ⟨n15, n16, n17, y18, q⟩ | ⟨n15, n16, n17, n18, q⟩
  ·
    refine a_aload_n 0 dM_takeKind_0 rfl rfl ?_
    refine a_geti dM_takeKind_1 fl12_127 rfl ly_95 (by omega) ?_
    rw [show (m_row (m_row (m_row I 95 F) 104 D) 105 A) 95 12 = (nI 2) from h12]
    refine a_iconstN (a := 2) dM_takeKind_4 (by decide) ?_
    refine a_icmp_eqN (tgt := 12) dM_takeKind_5 (by decide) (by omega) (by omega) (fun _ => ?_) (fun c => False.elim (by omega))
    refine a_aload_n 0 dM_takeKind_12 rfl rfl ?_
    refine a_getl dM_takeKind_13 fl12_123 rfl ly_95 (by omega) ?_
    rw [show (m_up J 95 14 (tkW (I 96) len p)) 95 14 = (tkW (I 96) len p) from by rfl]
    refine a_ldc2 (v := 6975353) dM_takeKind_16 cn12_174 ?_
    refine a_lcmp dM_takeKind_19 ?_
    refine a_if_ne (tgt := 27) dM_takeKind_20 (by decide) (fun c => False.elim (c ((tkW_15 hp s).mpr y15))) (fun _ => ?_)
    refine a_iconstN (a := 0) dM_takeKind_23 (by decide) ?_
    refine a_goto (tgt := 73) dM_takeKind_24 (by decide) ?_
    refine a_istore_n (lv' := [(2, .int (nI 0)), (0, .ref 95), (1, .int (nI k))]) dM_takeKind_73 rfl (by decide) rfl ?_
    refine a_iload_n 0 dM_takeKind_74 rfl rfl ?_
    refine a_iconst (v := -1) dM_takeKind_75 (by decide) ?_
    refine a_icmp_ne (tgt := 84) dM_takeKind_76 (by decide) (fun _ => ?_) (fun c => False.elim (absurd c (by decide)))
    refine a_aload_n 1 dM_takeKind_84 rfl rfl ?_
    refine a_geta (r := 105) dM_takeKind_85 fl12_38 rfl ly_95 (by omega) (rf_95_19 hR) ?_
    refine a_iload_n 2 dM_takeKind_88 rfl rfl ?_
    refine a_iload_n 0 dM_takeKind_89 rfl rfl ?_
    refine a_iastN (a := k) dM_takeKind_90 ly_105 (by omega) (by omega) (by decide) ?_
    rw [show m_up (m_row (m_row (m_row I 95 F) 104 D) 105 A) 105 k (nI 0) = (m_row (m_row (m_row I 95 F) 104 D) 105 (va_up A k (nI 0))) from (by rw [m_up_r])]
    refine a_aload_n 1 dM_takeKind_91 rfl rfl ?_
    refine a_callV (Q' := m_res none (mRd I (tkG (I 96) len (tkE (I 96) len p) F) D (va_up A k (nI 0))) (m_up J 95 14 (tkW (I 96) len (tkE (I 96) len p))) R) (as := []) (st := []) dM_takeKind_92 ml12_154 rfl (Nat.le_of_ble_eq_true rfl) ly_95 rfl rfl (by decide) (by omega) (Nat.le_of_ble_eq_true rfl) rfl (Nat.le_refl _) (Nat.le_refl _) (c_tok (S := S) (d := d) (n := n) (F := F) (D := D) (A := (va_up A k (nI 0))) (w := tkW (I 96) len p) hn hR hl6 hby he.2 hS.h9 hS.h10) (m_go ?_)
    show AW _ _ _ _ _ _ _ _ [] _ _ _ _
    refine a_iconstN (a := 1) dM_takeKind_95 (by decide) ?_
    exact a_zret dM_takeKind_96 rfl (by rfl) (hf 0 (by decide) q)
  ·
    refine a_aload_n 0 dM_takeKind_0 rfl rfl ?_
    refine a_geti dM_takeKind_1 fl12_127 rfl ly_95 (by omega) ?_
    rw [show (m_row (m_row (m_row I 95 F) 104 D) 105 A) 95 12 = (nI 2) from h12]
    refine a_iconstN (a := 2) dM_takeKind_4 (by decide) ?_
    refine a_icmp_eqN (tgt := 12) dM_takeKind_5 (by decide) (by omega) (by omega) (fun _ => ?_) (fun c => False.elim (by omega))
    refine a_aload_n 0 dM_takeKind_12 rfl rfl ?_
    refine a_getl dM_takeKind_13 fl12_123 rfl ly_95 (by omega) ?_
    rw [show (m_up J 95 14 (tkW (I 96) len p)) 95 14 = (tkW (I 96) len p) from by rfl]
    refine a_ldc2 (v := 6975353) dM_takeKind_16 cn12_174 ?_
    refine a_lcmp dM_takeKind_19 ?_
    refine a_if_ne (tgt := 27) dM_takeKind_20 (by decide) (fun _ => ?_) (fun c => False.elim (n15 ((tkW_15 hp s).mp c)))
    refine a_aload_n 0 dM_takeKind_27 rfl rfl ?_
    refine a_getl dM_takeKind_28 fl12_123 rfl ly_95 (by omega) ?_
    rw [show (m_up J 95 14 (tkW (I 96) len p)) 95 14 = (tkW (I 96) len p) from by rfl]
    refine a_ldc2 (v := 1651273591) dM_takeKind_31 cn12_176 ?_
    refine a_lcmp dM_takeKind_34 ?_
    refine a_if_ne (tgt := 42) dM_takeKind_35 (by decide) (fun c => False.elim (c ((tkW_16 hp s).mpr y16))) (fun _ => ?_)
    refine a_iconstN (a := 1) dM_takeKind_38 (by decide) ?_
    refine a_goto (tgt := 73) dM_takeKind_39 (by decide) ?_
    refine a_istore_n (lv' := [(2, .int (nI 1)), (0, .ref 95), (1, .int (nI k))]) dM_takeKind_73 rfl (by decide) rfl ?_
    refine a_iload_n 0 dM_takeKind_74 rfl rfl ?_
    refine a_iconst (v := -1) dM_takeKind_75 (by decide) ?_
    refine a_icmp_ne (tgt := 84) dM_takeKind_76 (by decide) (fun _ => ?_) (fun c => False.elim (absurd c (by decide)))
    refine a_aload_n 1 dM_takeKind_84 rfl rfl ?_
    refine a_geta (r := 105) dM_takeKind_85 fl12_38 rfl ly_95 (by omega) (rf_95_19 hR) ?_
    refine a_iload_n 2 dM_takeKind_88 rfl rfl ?_
    refine a_iload_n 0 dM_takeKind_89 rfl rfl ?_
    refine a_iastN (a := k) dM_takeKind_90 ly_105 (by omega) (by omega) (by decide) ?_
    rw [show m_up (m_row (m_row (m_row I 95 F) 104 D) 105 A) 105 k (nI 1) = (m_row (m_row (m_row I 95 F) 104 D) 105 (va_up A k (nI 1))) from (by rw [m_up_r])]
    refine a_aload_n 1 dM_takeKind_91 rfl rfl ?_
    refine a_callV (Q' := m_res none (mRd I (tkG (I 96) len (tkE (I 96) len p) F) D (va_up A k (nI 1))) (m_up J 95 14 (tkW (I 96) len (tkE (I 96) len p))) R) (as := []) (st := []) dM_takeKind_92 ml12_154 rfl (Nat.le_of_ble_eq_true rfl) ly_95 rfl rfl (by decide) (by omega) (Nat.le_of_ble_eq_true rfl) rfl (Nat.le_refl _) (Nat.le_refl _) (c_tok (S := S) (d := d) (n := n) (F := F) (D := D) (A := (va_up A k (nI 1))) (w := tkW (I 96) len p) hn hR hl6 hby he.2 hS.h9 hS.h10) (m_go ?_)
    show AW _ _ _ _ _ _ _ _ [] _ _ _ _
    refine a_iconstN (a := 1) dM_takeKind_95 (by decide) ?_
    exact a_zret dM_takeKind_96 rfl (by rfl) (hf 1 (by decide) q)
  ·
    refine a_aload_n 0 dM_takeKind_0 rfl rfl ?_
    refine a_geti dM_takeKind_1 fl12_127 rfl ly_95 (by omega) ?_
    rw [show (m_row (m_row (m_row I 95 F) 104 D) 105 A) 95 12 = (nI 2) from h12]
    refine a_iconstN (a := 2) dM_takeKind_4 (by decide) ?_
    refine a_icmp_eqN (tgt := 12) dM_takeKind_5 (by decide) (by omega) (by omega) (fun _ => ?_) (fun c => False.elim (by omega))
    refine a_aload_n 0 dM_takeKind_12 rfl rfl ?_
    refine a_getl dM_takeKind_13 fl12_123 rfl ly_95 (by omega) ?_
    rw [show (m_up J 95 14 (tkW (I 96) len p)) 95 14 = (tkW (I 96) len p) from by rfl]
    refine a_ldc2 (v := 6975353) dM_takeKind_16 cn12_174 ?_
    refine a_lcmp dM_takeKind_19 ?_
    refine a_if_ne (tgt := 27) dM_takeKind_20 (by decide) (fun _ => ?_) (fun c => False.elim (n15 ((tkW_15 hp s).mp c)))
    refine a_aload_n 0 dM_takeKind_27 rfl rfl ?_
    refine a_getl dM_takeKind_28 fl12_123 rfl ly_95 (by omega) ?_
    rw [show (m_up J 95 14 (tkW (I 96) len p)) 95 14 = (tkW (I 96) len p) from by rfl]
    refine a_ldc2 (v := 1651273591) dM_takeKind_31 cn12_176 ?_
    refine a_lcmp dM_takeKind_34 ?_
    refine a_if_ne (tgt := 42) dM_takeKind_35 (by decide) (fun _ => ?_) (fun c => False.elim (n16 ((tkW_16 hp s).mp c)))
    refine a_aload_n 0 dM_takeKind_42 rfl rfl ?_
    refine a_getl dM_takeKind_43 fl12_123 rfl ly_95 (by omega) ?_
    rw [show (m_up J 95 14 (tkW (I 96) len p)) 95 14 = (tkW (I 96) len p) from by rfl]
    refine a_ldc2 (v := 470020941177) dM_takeKind_46 cn12_178 ?_
    refine a_lcmp dM_takeKind_49 ?_
    refine a_if_ne (tgt := 57) dM_takeKind_50 (by decide) (fun c => False.elim (c ((tkW_17 hp s).mpr y17))) (fun _ => ?_)
    refine a_iconstN (a := 2) dM_takeKind_53 (by decide) ?_
    refine a_goto (tgt := 73) dM_takeKind_54 (by decide) ?_
    refine a_istore_n (lv' := [(2, .int (nI 2)), (0, .ref 95), (1, .int (nI k))]) dM_takeKind_73 rfl (by decide) rfl ?_
    refine a_iload_n 0 dM_takeKind_74 rfl rfl ?_
    refine a_iconst (v := -1) dM_takeKind_75 (by decide) ?_
    refine a_icmp_ne (tgt := 84) dM_takeKind_76 (by decide) (fun _ => ?_) (fun c => False.elim (absurd c (by decide)))
    refine a_aload_n 1 dM_takeKind_84 rfl rfl ?_
    refine a_geta (r := 105) dM_takeKind_85 fl12_38 rfl ly_95 (by omega) (rf_95_19 hR) ?_
    refine a_iload_n 2 dM_takeKind_88 rfl rfl ?_
    refine a_iload_n 0 dM_takeKind_89 rfl rfl ?_
    refine a_iastN (a := k) dM_takeKind_90 ly_105 (by omega) (by omega) (by decide) ?_
    rw [show m_up (m_row (m_row (m_row I 95 F) 104 D) 105 A) 105 k (nI 2) = (m_row (m_row (m_row I 95 F) 104 D) 105 (va_up A k (nI 2))) from (by rw [m_up_r])]
    refine a_aload_n 1 dM_takeKind_91 rfl rfl ?_
    refine a_callV (Q' := m_res none (mRd I (tkG (I 96) len (tkE (I 96) len p) F) D (va_up A k (nI 2))) (m_up J 95 14 (tkW (I 96) len (tkE (I 96) len p))) R) (as := []) (st := []) dM_takeKind_92 ml12_154 rfl (Nat.le_of_ble_eq_true rfl) ly_95 rfl rfl (by decide) (by omega) (Nat.le_of_ble_eq_true rfl) rfl (Nat.le_refl _) (Nat.le_refl _) (c_tok (S := S) (d := d) (n := n) (F := F) (D := D) (A := (va_up A k (nI 2))) (w := tkW (I 96) len p) hn hR hl6 hby he.2 hS.h9 hS.h10) (m_go ?_)
    show AW _ _ _ _ _ _ _ _ [] _ _ _ _
    refine a_iconstN (a := 1) dM_takeKind_95 (by decide) ?_
    exact a_zret dM_takeKind_96 rfl (by rfl) (hf 2 (by decide) q)
  ·
    refine a_aload_n 0 dM_takeKind_0 rfl rfl ?_
    refine a_geti dM_takeKind_1 fl12_127 rfl ly_95 (by omega) ?_
    rw [show (m_row (m_row (m_row I 95 F) 104 D) 105 A) 95 12 = (nI 2) from h12]
    refine a_iconstN (a := 2) dM_takeKind_4 (by decide) ?_
    refine a_icmp_eqN (tgt := 12) dM_takeKind_5 (by decide) (by omega) (by omega) (fun _ => ?_) (fun c => False.elim (by omega))
    refine a_aload_n 0 dM_takeKind_12 rfl rfl ?_
    refine a_getl dM_takeKind_13 fl12_123 rfl ly_95 (by omega) ?_
    rw [show (m_up J 95 14 (tkW (I 96) len p)) 95 14 = (tkW (I 96) len p) from by rfl]
    refine a_ldc2 (v := 6975353) dM_takeKind_16 cn12_174 ?_
    refine a_lcmp dM_takeKind_19 ?_
    refine a_if_ne (tgt := 27) dM_takeKind_20 (by decide) (fun _ => ?_) (fun c => False.elim (n15 ((tkW_15 hp s).mp c)))
    refine a_aload_n 0 dM_takeKind_27 rfl rfl ?_
    refine a_getl dM_takeKind_28 fl12_123 rfl ly_95 (by omega) ?_
    rw [show (m_up J 95 14 (tkW (I 96) len p)) 95 14 = (tkW (I 96) len p) from by rfl]
    refine a_ldc2 (v := 1651273591) dM_takeKind_31 cn12_176 ?_
    refine a_lcmp dM_takeKind_34 ?_
    refine a_if_ne (tgt := 42) dM_takeKind_35 (by decide) (fun _ => ?_) (fun c => False.elim (n16 ((tkW_16 hp s).mp c)))
    refine a_aload_n 0 dM_takeKind_42 rfl rfl ?_
    refine a_getl dM_takeKind_43 fl12_123 rfl ly_95 (by omega) ?_
    rw [show (m_up J 95 14 (tkW (I 96) len p)) 95 14 = (tkW (I 96) len p) from by rfl]
    refine a_ldc2 (v := 470020941177) dM_takeKind_46 cn12_178 ?_
    refine a_lcmp dM_takeKind_49 ?_
    refine a_if_ne (tgt := 57) dM_takeKind_50 (by decide) (fun _ => ?_) (fun c => False.elim (n17 ((tkW_17 hp s).mp c)))
    refine a_aload_n 0 dM_takeKind_57 rfl rfl ?_
    refine a_getl dM_takeKind_58 fl12_123 rfl ly_95 (by omega) ?_
    rw [show (m_up J 95 14 (tkW (I 96) len p)) 95 14 = (tkW (I 96) len p) from by rfl]
    refine a_ldc2 (v := 31084793196801639) dM_takeKind_61 cn12_180 ?_
    refine a_lcmp dM_takeKind_64 ?_
    refine a_if_ne (tgt := 72) dM_takeKind_65 (by decide) (fun c => False.elim (c ((tkW_18 hp s).mpr y18))) (fun _ => ?_)
    refine a_iconstN (a := 3) dM_takeKind_68 (by decide) ?_
    refine a_goto (tgt := 73) dM_takeKind_69 (by decide) ?_
    refine a_istore_n (lv' := [(2, .int (nI 3)), (0, .ref 95), (1, .int (nI k))]) dM_takeKind_73 rfl (by decide) rfl ?_
    refine a_iload_n 0 dM_takeKind_74 rfl rfl ?_
    refine a_iconst (v := -1) dM_takeKind_75 (by decide) ?_
    refine a_icmp_ne (tgt := 84) dM_takeKind_76 (by decide) (fun _ => ?_) (fun c => False.elim (absurd c (by decide)))
    refine a_aload_n 1 dM_takeKind_84 rfl rfl ?_
    refine a_geta (r := 105) dM_takeKind_85 fl12_38 rfl ly_95 (by omega) (rf_95_19 hR) ?_
    refine a_iload_n 2 dM_takeKind_88 rfl rfl ?_
    refine a_iload_n 0 dM_takeKind_89 rfl rfl ?_
    refine a_iastN (a := k) dM_takeKind_90 ly_105 (by omega) (by omega) (by decide) ?_
    rw [show m_up (m_row (m_row (m_row I 95 F) 104 D) 105 A) 105 k (nI 3) = (m_row (m_row (m_row I 95 F) 104 D) 105 (va_up A k (nI 3))) from (by rw [m_up_r])]
    refine a_aload_n 1 dM_takeKind_91 rfl rfl ?_
    refine a_callV (Q' := m_res none (mRd I (tkG (I 96) len (tkE (I 96) len p) F) D (va_up A k (nI 3))) (m_up J 95 14 (tkW (I 96) len (tkE (I 96) len p))) R) (as := []) (st := []) dM_takeKind_92 ml12_154 rfl (Nat.le_of_ble_eq_true rfl) ly_95 rfl rfl (by decide) (by omega) (Nat.le_of_ble_eq_true rfl) rfl (Nat.le_refl _) (Nat.le_refl _) (c_tok (S := S) (d := d) (n := n) (F := F) (D := D) (A := (va_up A k (nI 3))) (w := tkW (I 96) len p) hn hR hl6 hby he.2 hS.h9 hS.h10) (m_go ?_)
    show AW _ _ _ _ _ _ _ _ [] _ _ _ _
    refine a_iconstN (a := 1) dM_takeKind_95 (by decide) ?_
    exact a_zret dM_takeKind_96 rfl (by rfl) (hf 3 (by decide) q)
  · exact absurd q h
theorem c_full0 {S : Nat × (Nat → Int32)} {d n : Nat} {I : mI} {J : mJ} {R : mR} (hn : 122 ≤ n) (hR : m_fin R) {F D A : Nat → Int32} {c m q : Nat} (hc : c < 3) (h : ¬ D c = nI m)  : RUN S (d + 1) YM_full [.ref 95, .int (nI c), .int (nI m), .int (nI q)] (m_row (m_row (m_row I 95 F) 104 D) 105 A) J R n none (mRd I F D A) J R n := by
  show AW S _ YM_full n n _ 0 [(0, .ref 95), (1, .int (nI c)), (2, .int (nI m)), (3, .int (nI q))] [] (m_row (m_row (m_row I 95 F) 104 D) 105 A) J R n
  refine a_aload_n 0 dM_full_0 rfl rfl ?_
  refine a_geta (r := 104) dM_full_1 fl12_35 rfl ly_95 (by omega) (rf_95_18 hR) ?_
  refine a_iload_n 1 dM_full_4 rfl rfl ?_
  refine a_ialdN (a := c) dM_full_5 ly_104 (by omega) (by omega) (by decide) ?_
  rw [show (m_row (m_row (m_row I 95 F) 104 D) 105 A) 104 c = D c from rfl]
  refine a_iload_n 2 dM_full_6 rfl rfl ?_
  refine a_icmp_ne (tgt := 16) dM_full_7 (by decide) (fun _ => ?_) (fun c => False.elim (h c))
  exact a_vret dM_full_16 rfl ⟨rfl, rfl, rfl, rfl⟩
theorem c_full1 {S : Nat × (Nat → Int32)} {d n : Nat} {I : mI} {J : mJ} {R : mR} (hn : 122 ≤ n) (hR : m_fin R) {F D A : Nat → Int32} {c m q : Nat} (hc : c < 3) {x : Nat × Nat} (f5 : x.1 < 5) (h16 : F 16 = nI x.1) (h17 : ¬ x.1 = 0 → F 17 = nI x.2) (hq : q < 1000) (hlp : ¬ x.1 = 0 → x.2 < q) (h : D c = nI m)  : RUN S (d + 1) YM_full [.ref 95, .int (nI c), .int (nI m), .int (nI q)] (m_row (m_row (m_row I 95 F) 104 D) 105 A) J R n none (mRd I (ltF x F 3 q) D A) J R n := by
  show AW S _ YM_full n n _ 0 [(0, .ref 95), (1, .int (nI c)), (2, .int (nI m)), (3, .int (nI q))] [] (m_row (m_row (m_row I 95 F) 104 D) 105 A) J R n
  refine a_aload_n 0 dM_full_0 rfl rfl ?_
  refine a_geta (r := 104) dM_full_1 fl12_35 rfl ly_95 (by omega) (rf_95_18 hR) ?_
  refine a_iload_n 1 dM_full_4 rfl rfl ?_
  refine a_ialdN (a := c) dM_full_5 ly_104 (by omega) (by omega) (by decide) ?_
  rw [show (m_row (m_row (m_row I 95 F) 104 D) 105 A) 104 c = D c from rfl]
  refine a_iload_n 2 dM_full_6 rfl rfl ?_
  refine a_icmp_ne (tgt := 16) dM_full_7 (by decide) (fun c => False.elim (c h)) (fun _ => ?_)
  refine a_aload_n 0 dM_full_10 rfl rfl ?_
  refine a_iconstN (a := 3) dM_full_11 (by decide) ?_
  refine a_iload_n 3 dM_full_12 rfl rfl ?_
  refine a_callV (Q' := m_res none (mRd I (ltF x F 3 q) D A) J R) (as := [.int (nI 3), .int (nI q)]) (st := []) dM_full_13 ml12_146 rfl (Nat.le_of_ble_eq_true rfl) ly_95 rfl rfl (by decide) (by omega) (Nat.le_of_ble_eq_true rfl) rfl (Nat.le_refl _) (Nat.le_refl _) (c_later hn hR f5 h16 h17 hq hlp) (m_go ?_)
  show AW _ _ _ _ _ _ _ _ [] _ _ _ _
  exact a_vret dM_full_16 rfl ⟨rfl, rfl, rfl, rfl⟩
