theorem mR5 {I : mI} {F D A : Nat → Int32} : m_row (m_row (m_row (m_row (m_row I 95 F) 98 (I 98)) 99 (I 99)) 104 D) 105 A = mRd I F D A := by
  funext a
  unfold mRd m_row
  by_cases h1 : a = 105
  · simp [h1]
  · by_cases h2 : a = 104
    · simp [h2]
    · by_cases h3 : a = 99
      · simp [h3]
      · by_cases h4 : a = 98
        · simp [h4]
        · simp [h1, h2, h3, h4]
theorem f_in_o {v lo hi : Nat} (hv : v < 1000) (hl : lo < 1000) (hh : hi < 1000) (h : v < lo ∨ hi < v) : f_in (nI v) (nI lo) (nI hi) = 0 := by
  unfold f_in
  by_cases c1 : v < lo
  · rw [if_pos ((nI_ltI (by omega) (by omega)).mpr c1)]
  · rw [if_neg (fun q => c1 ((nI_ltI (by omega) (by omega)).mp q)), if_pos ((nI_ltI (by omega) (by omega)).mpr (by omega))]
def rtD (of k : Nat) : Int32 := if of = 0 then (if k < 3 then nI 0 else if 9 ≤ k ∧ k ≤ 38 then nI 0 else if k < 9 then nI 10 else -1) else nI 0
def lnsQ (I : mI) (J : mJ) (R : mR) (len of : Nat) (out : TS) (v : Option Value) (I2 : mI) (J2 : mJ) (R2 : mR) : Prop :=
  R2 = R ∧ (∃ w, J2 = m_up J 95 14 w) ∧ ((v = some (.int 0) ∧ out.f = 1 ∧ ∃ F' D' A', F' 15 = nI out.pl ∧ I2 = mRd I F' D' A') ∨ (v = some (.int 1) ∧ ∃ F' D' A' p x gh gl g st, RS (I 96) len p x gh gl g F' ∧ tkS (I 96) len p = 0 ∧ p ≤ len ∧ RR of st x gh gl D' ∧ out = finA len of st ∧ I2 = mRd I F' D' A'))
theorem c_lines {S : Nat × (Nat → Int32)} {d n : Nat} {I : mI} {J : mJ} {R : mR} (hn : 122 ≤ n) (hR : m_fin R) {len : Nat} (hl6 : len ≤ 600) (hby : byT (I 96) len) {of p : Nat} (hof : of < 3) (hp : p ≤ len) {F D A : Nat → Int32} {x : Nat × Nat} {gh gl g : Int32} {st : TS} (hS : RS (I 96) len p x gh gl g F) (hRR : RR of st x gh gl D) {r : Nat} (hr : len + 1 ≤ p + r) : AW S (d + 7) YM_lines n n (lnsQ I J R len of (rdA (I 96) len of r p st)) 0 [(0, .ref 95), (1, .int (nI of))] [] (m_row (m_row (m_row I 95 F) 104 D) 105 A) (m_up J 95 14 (tkW (I 96) len p)) R n := by
  refine a_iconstN (a := 1) dM_lines_0 (by decide) ?_
  refine a_istore_n (lv' := [(2, .int (nI 1)), (0, .ref 95), (1, .int (nI of))]) dM_lines_1 rfl (by decide) rfl ?_
  refine a_locs (lv' := [(2, .int (nI 1)), (0, .ref 95), (1, .int (nI of))]) [0, 1, 2] rfl ?_
  exact l_lines hn hR hl6 hby hof (out := rdA (I 96) len of r p st) (fun F' D' A' w h1 h2 => ⟨rfl, ⟨w, rfl⟩, Or.inl ⟨rfl, h2, F', D', A', h1, rfl⟩⟩) (fun F' D' A' p x gh gl g st w h1 h2 h3 h4 h5 => ⟨rfl, ⟨w, rfl⟩, Or.inr ⟨rfl, F', D', A', p, x, gh, gl, g, st, h1, h2, h3, h4, h5, rfl⟩⟩) r p F D A x gh gl g st hr hp hS hRR rfl
theorem l_fill {S : Nat × (Nat → Int32)} {d n : Nat} {I : mI} {J : mJ} {R : mR} (hn : 122 ≤ n) (hR : m_fin R) {F D A : Nat → Int32} {of : Nat} (hof : of < 3) {Q : Option Value → mI → mJ → mR → Prop} (hx : AW S (d + 8) YM_readText n n Q 56 [(2, .int (nI 121)), (0, .ref 95), (1, .int (nI of))] [] (m_row (m_row (m_row I 95 F) 104 (m_fill (rtD of) D 121)) 105 A) J R n) : ∀ m k, k + m = 121 → AW S (d + 8) YM_readText n n Q 2 [(2, .int (nI k)), (0, .ref 95), (1, .int (nI of))] [] (m_row (m_row (m_row I 95 F) 104 (m_fill (rtD of) D k)) 105 A) J R n := by
  intro m
  induction m with
  | zero =>
    intro k hk
    obtain rfl : k = 121 := by omega
    refine a_iload_n 0 dM_readText_2 rfl rfl ?_
    refine a_bipushN (a := 121) dM_readText_3 (by decide) ?_
    refine a_icmp_geN (tgt := 56) dM_readText_5 (by decide) (by omega) (by omega) (fun _ => ?_) (fun c => False.elim (by omega))
    exact hx
  | succ m ih =>
    intro k hk
    by_cases o : of = 0
    · subst o
      by_cases a3 : k < 3
      ·
        refine a_iload_n 0 dM_readText_2 rfl rfl ?_
        refine a_bipushN (a := 121) dM_readText_3 (by decide) ?_
        refine a_icmp_geN (tgt := 56) dM_readText_5 (by decide) (by omega) (by omega) (fun c => False.elim (by omega)) (fun _ => ?_)
        refine a_aload_n 1 dM_readText_8 rfl rfl ?_
        refine a_geta (r := 104) dM_readText_9 fl12_35 rfl ly_95 (by omega) (rf_95_18 hR) ?_
        refine a_iload_n 0 dM_readText_12 rfl rfl ?_
        refine a_iload_n 2 dM_readText_13 rfl rfl ?_
        refine a_if_ne (tgt := 33) dM_readText_14 (by decide) (fun c => False.elim (c rfl)) (fun _ => ?_)
        refine a_iload_n 0 dM_readText_17 rfl rfl ?_
        refine a_iconstN (a := 3) dM_readText_18 (by decide) ?_
        refine a_icmp_ltN (tgt := 33) dM_readText_19 (by decide) (by omega) (by omega) (fun _ => ?_) (fun c => False.elim (by omega))
        refine a_iconstN (a := 0) dM_readText_33 (by decide) ?_
        refine a_goto (tgt := 49) dM_readText_34 (by decide) ?_
        refine a_iastN (a := k) dM_readText_49 ly_104 (by omega) (by omega) (by decide) ?_
        rw [show m_up (m_row (m_row (m_row I 95 F) 104 (m_fill (rtD 0) D k)) 105 A) 104 k (nI 0) = (m_row (m_row (m_row I 95 F) 104 (va_up (m_fill (rtD 0) D k) k (nI 0))) 105 A) from (by rw [m_up_comm (by decide), m_up_r])]
        refine a_iincN (lv' := [(2, .int (nI (k + 1))), (0, .ref 95), (1, .int (nI 0))]) (j := 0) dM_readText_50 rfl (by decide) rfl ?_
        refine a_goto (tgt := 2) dM_readText_53 (by decide) ?_
        refine a_locs (lv' := [(2, .int (nI (k + 1))), (0, .ref 95), (1, .int (nI 0))]) [0, 1, 2] rfl ?_
        have hv : nI 0 = rtD 0 k := by unfold rtD; rw [if_pos rfl, if_pos a3]
        rw [show va_up (m_fill (rtD 0) D k) k (nI 0) = m_fill (rtD 0) D (k + 1) from (by rw [hv]; exact m_fill_s _ _ _)]
        exact ih (k + 1) (by omega)
      · by_cases a9 : 9 ≤ k ∧ k ≤ 38
        ·
          refine a_iload_n 0 dM_readText_2 rfl rfl ?_
          refine a_bipushN (a := 121) dM_readText_3 (by decide) ?_
          refine a_icmp_geN (tgt := 56) dM_readText_5 (by decide) (by omega) (by omega) (fun c => False.elim (by omega)) (fun _ => ?_)
          refine a_aload_n 1 dM_readText_8 rfl rfl ?_
          refine a_geta (r := 104) dM_readText_9 fl12_35 rfl ly_95 (by omega) (rf_95_18 hR) ?_
          refine a_iload_n 0 dM_readText_12 rfl rfl ?_
          refine a_iload_n 2 dM_readText_13 rfl rfl ?_
          refine a_if_ne (tgt := 33) dM_readText_14 (by decide) (fun c => False.elim (c rfl)) (fun _ => ?_)
          refine a_iload_n 0 dM_readText_17 rfl rfl ?_
          refine a_iconstN (a := 3) dM_readText_18 (by decide) ?_
          refine a_icmp_ltN (tgt := 33) dM_readText_19 (by decide) (by omega) (by omega) (fun c => False.elim (by omega)) (fun _ => ?_)
          refine a_iload_n 0 dM_readText_22 rfl rfl ?_
          refine a_bipushN (a := 9) dM_readText_23 (by decide) ?_
          refine a_bipushN (a := 38) dM_readText_25 (by decide) ?_
          refine a_callS (Q' := m_res (some (.int 1)) (m_row (m_row (m_row I 95 F) 104 (m_fill (rtD 0) D k)) 105 A) J R) (as := [.int (nI k), .int (nI 9), .int (nI 38)]) (st := [.int (nI k), .ref 104]) dM_readText_27 ml12_102 rfl (Nat.le_of_ble_eq_true rfl) (Nat.le_of_ble_eq_true rfl) rfl (Nat.le_refl _) (Nat.le_refl _) (c_M_inE (f_in_n a9.1 a9.2 (by decide))) (m_go ?_)
          show AW _ _ _ _ _ _ _ _ [.int 1, .int (nI k), .ref 104] _ _ _ _
          refine a_if_eq (tgt := 37) dM_readText_30 (by decide) (fun c => False.elim (absurd c (by decide))) (fun _ => ?_)
          refine a_iconstN (a := 0) dM_readText_33 (by decide) ?_
          refine a_goto (tgt := 49) dM_readText_34 (by decide) ?_
          refine a_iastN (a := k) dM_readText_49 ly_104 (by omega) (by omega) (by decide) ?_
          rw [show m_up (m_row (m_row (m_row I 95 F) 104 (m_fill (rtD 0) D k)) 105 A) 104 k (nI 0) = (m_row (m_row (m_row I 95 F) 104 (va_up (m_fill (rtD 0) D k) k (nI 0))) 105 A) from (by rw [m_up_comm (by decide), m_up_r])]
          refine a_iincN (lv' := [(2, .int (nI (k + 1))), (0, .ref 95), (1, .int (nI 0))]) (j := 0) dM_readText_50 rfl (by decide) rfl ?_
          refine a_goto (tgt := 2) dM_readText_53 (by decide) ?_
          refine a_locs (lv' := [(2, .int (nI (k + 1))), (0, .ref 95), (1, .int (nI 0))]) [0, 1, 2] rfl ?_
          have hv : nI 0 = rtD 0 k := by unfold rtD; rw [if_pos rfl, if_neg a3, if_pos a9]
          rw [show va_up (m_fill (rtD 0) D k) k (nI 0) = m_fill (rtD 0) D (k + 1) from (by rw [hv]; exact m_fill_s _ _ _)]
          exact ih (k + 1) (by omega)
        · by_cases b9 : k < 9
          ·
            refine a_iload_n 0 dM_readText_2 rfl rfl ?_
            refine a_bipushN (a := 121) dM_readText_3 (by decide) ?_
            refine a_icmp_geN (tgt := 56) dM_readText_5 (by decide) (by omega) (by omega) (fun c => False.elim (by omega)) (fun _ => ?_)
            refine a_aload_n 1 dM_readText_8 rfl rfl ?_
            refine a_geta (r := 104) dM_readText_9 fl12_35 rfl ly_95 (by omega) (rf_95_18 hR) ?_
            refine a_iload_n 0 dM_readText_12 rfl rfl ?_
            refine a_iload_n 2 dM_readText_13 rfl rfl ?_
            refine a_if_ne (tgt := 33) dM_readText_14 (by decide) (fun c => False.elim (c rfl)) (fun _ => ?_)
            refine a_iload_n 0 dM_readText_17 rfl rfl ?_
            refine a_iconstN (a := 3) dM_readText_18 (by decide) ?_
            refine a_icmp_ltN (tgt := 33) dM_readText_19 (by decide) (by omega) (by omega) (fun c => False.elim (by omega)) (fun _ => ?_)
            refine a_iload_n 0 dM_readText_22 rfl rfl ?_
            refine a_bipushN (a := 9) dM_readText_23 (by decide) ?_
            refine a_bipushN (a := 38) dM_readText_25 (by decide) ?_
            refine a_callS (Q' := m_res (some (.int 0)) (m_row (m_row (m_row I 95 F) 104 (m_fill (rtD 0) D k)) 105 A) J R) (as := [.int (nI k), .int (nI 9), .int (nI 38)]) (st := [.int (nI k), .ref 104]) dM_readText_27 ml12_102 rfl (Nat.le_of_ble_eq_true rfl) (Nat.le_of_ble_eq_true rfl) rfl (Nat.le_refl _) (Nat.le_refl _) (c_M_inE (f_in_o (by omega) (by decide) (by decide) (by omega))) (m_go ?_)
            show AW _ _ _ _ _ _ _ _ [.int 0, .int (nI k), .ref 104] _ _ _ _
            refine a_if_eq (tgt := 37) dM_readText_30 (by decide) (fun _ => ?_) (fun c => False.elim (c rfl))
            refine a_iload_n 0 dM_readText_37 rfl rfl ?_
            refine a_bipushN (a := 9) dM_readText_38 (by decide) ?_
            refine a_icmp_geN (tgt := 48) dM_readText_40 (by decide) (by omega) (by omega) (fun c => False.elim (by omega)) (fun _ => ?_)
            refine a_bipushN (a := 10) dM_readText_43 (by decide) ?_
            refine a_goto (tgt := 49) dM_readText_45 (by decide) ?_
            refine a_iastN (a := k) dM_readText_49 ly_104 (by omega) (by omega) (by decide) ?_
            rw [show m_up (m_row (m_row (m_row I 95 F) 104 (m_fill (rtD 0) D k)) 105 A) 104 k (nI 10) = (m_row (m_row (m_row I 95 F) 104 (va_up (m_fill (rtD 0) D k) k (nI 10))) 105 A) from (by rw [m_up_comm (by decide), m_up_r])]
            refine a_iincN (lv' := [(2, .int (nI (k + 1))), (0, .ref 95), (1, .int (nI 0))]) (j := 0) dM_readText_50 rfl (by decide) rfl ?_
            refine a_goto (tgt := 2) dM_readText_53 (by decide) ?_
            refine a_locs (lv' := [(2, .int (nI (k + 1))), (0, .ref 95), (1, .int (nI 0))]) [0, 1, 2] rfl ?_
            have hv : nI 10 = rtD 0 k := by unfold rtD; rw [if_pos rfl, if_neg a3, if_neg a9, if_pos b9]
            rw [show va_up (m_fill (rtD 0) D k) k (nI 10) = m_fill (rtD 0) D (k + 1) from (by rw [hv]; exact m_fill_s _ _ _)]
            exact ih (k + 1) (by omega)
          ·
            refine a_iload_n 0 dM_readText_2 rfl rfl ?_
            refine a_bipushN (a := 121) dM_readText_3 (by decide) ?_
            refine a_icmp_geN (tgt := 56) dM_readText_5 (by decide) (by omega) (by omega) (fun c => False.elim (by omega)) (fun _ => ?_)
            refine a_aload_n 1 dM_readText_8 rfl rfl ?_
            refine a_geta (r := 104) dM_readText_9 fl12_35 rfl ly_95 (by omega) (rf_95_18 hR) ?_
            refine a_iload_n 0 dM_readText_12 rfl rfl ?_
            refine a_iload_n 2 dM_readText_13 rfl rfl ?_
            refine a_if_ne (tgt := 33) dM_readText_14 (by decide) (fun c => False.elim (c rfl)) (fun _ => ?_)
            refine a_iload_n 0 dM_readText_17 rfl rfl ?_
            refine a_iconstN (a := 3) dM_readText_18 (by decide) ?_
            refine a_icmp_ltN (tgt := 33) dM_readText_19 (by decide) (by omega) (by omega) (fun c => False.elim (by omega)) (fun _ => ?_)
            refine a_iload_n 0 dM_readText_22 rfl rfl ?_
            refine a_bipushN (a := 9) dM_readText_23 (by decide) ?_
            refine a_bipushN (a := 38) dM_readText_25 (by decide) ?_
            refine a_callS (Q' := m_res (some (.int 0)) (m_row (m_row (m_row I 95 F) 104 (m_fill (rtD 0) D k)) 105 A) J R) (as := [.int (nI k), .int (nI 9), .int (nI 38)]) (st := [.int (nI k), .ref 104]) dM_readText_27 ml12_102 rfl (Nat.le_of_ble_eq_true rfl) (Nat.le_of_ble_eq_true rfl) rfl (Nat.le_refl _) (Nat.le_refl _) (c_M_inE (f_in_o (by omega) (by decide) (by decide) (by omega))) (m_go ?_)
            show AW _ _ _ _ _ _ _ _ [.int 0, .int (nI k), .ref 104] _ _ _ _
            refine a_if_eq (tgt := 37) dM_readText_30 (by decide) (fun _ => ?_) (fun c => False.elim (c rfl))
            refine a_iload_n 0 dM_readText_37 rfl rfl ?_
            refine a_bipushN (a := 9) dM_readText_38 (by decide) ?_
            refine a_icmp_geN (tgt := 48) dM_readText_40 (by decide) (by omega) (by omega) (fun _ => ?_) (fun c => False.elim (by omega))
            refine a_iconst (v := -1) dM_readText_48 (by decide) ?_
            refine a_iastN (a := k) dM_readText_49 ly_104 (by omega) (by omega) (by decide) ?_
            rw [show m_up (m_row (m_row (m_row I 95 F) 104 (m_fill (rtD 0) D k)) 105 A) 104 k (-1) = (m_row (m_row (m_row I 95 F) 104 (va_up (m_fill (rtD 0) D k) k (-1))) 105 A) from (by rw [m_up_comm (by decide), m_up_r])]
            refine a_iincN (lv' := [(2, .int (nI (k + 1))), (0, .ref 95), (1, .int (nI 0))]) (j := 0) dM_readText_50 rfl (by decide) rfl ?_
            refine a_goto (tgt := 2) dM_readText_53 (by decide) ?_
            refine a_locs (lv' := [(2, .int (nI (k + 1))), (0, .ref 95), (1, .int (nI 0))]) [0, 1, 2] rfl ?_
            have hv : -1 = rtD 0 k := by unfold rtD; rw [if_pos rfl, if_neg a3, if_neg a9, if_neg b9]
            rw [show va_up (m_fill (rtD 0) D k) k (-1) = m_fill (rtD 0) D (k + 1) from (by rw [hv]; exact m_fill_s _ _ _)]
            exact ih (k + 1) (by omega)
    ·
      refine a_iload_n 0 dM_readText_2 rfl rfl ?_
      refine a_bipushN (a := 121) dM_readText_3 (by decide) ?_
      refine a_icmp_geN (tgt := 56) dM_readText_5 (by decide) (by omega) (by omega) (fun c => False.elim (by omega)) (fun _ => ?_)
      refine a_aload_n 1 dM_readText_8 rfl rfl ?_
      refine a_geta (r := 104) dM_readText_9 fl12_35 rfl ly_95 (by omega) (rf_95_18 hR) ?_
      refine a_iload_n 0 dM_readText_12 rfl rfl ?_
      refine a_iload_n 2 dM_readText_13 rfl rfl ?_
      refine a_if_ne (tgt := 33) dM_readText_14 (by decide) (fun _ => ?_) (fun c => False.elim (o ((nI_eq (by omega) (by decide)).mp c)))
      refine a_iconstN (a := 0) dM_readText_33 (by decide) ?_
      refine a_goto (tgt := 49) dM_readText_34 (by decide) ?_
      refine a_iastN (a := k) dM_readText_49 ly_104 (by omega) (by omega) (by decide) ?_
      rw [show m_up (m_row (m_row (m_row I 95 F) 104 (m_fill (rtD of) D k)) 105 A) 104 k (nI 0) = (m_row (m_row (m_row I 95 F) 104 (va_up (m_fill (rtD of) D k) k (nI 0))) 105 A) from (by rw [m_up_comm (by decide), m_up_r])]
      refine a_iincN (lv' := [(2, .int (nI (k + 1))), (0, .ref 95), (1, .int (nI of))]) (j := 0) dM_readText_50 rfl (by decide) rfl ?_
      refine a_goto (tgt := 2) dM_readText_53 (by decide) ?_
      refine a_locs (lv' := [(2, .int (nI (k + 1))), (0, .ref 95), (1, .int (nI of))]) [0, 1, 2] rfl ?_
      have hv : nI 0 = rtD of k := by unfold rtD; rw [if_neg o]
      rw [show va_up (m_fill (rtD of) D k) k (nI 0) = m_fill (rtD of) D (k + 1) from (by rw [hv]; exact m_fill_s _ _ _)]
      exact ih (k + 1) (by omega)
