theorem le_step {x s k B y : Nat} (ih : x ≤ s + k * B) (hy : y ≤ x + B) : y ≤ s + (k + 1) * B := by
  rw [Nat.succ_mul, ← Nat.add_assoc]; exact Nat.le_trans hy (Nat.add_le_add_right ih _)
theorem mcA_le {I : mI} {o l : Nat} {b0 : Int32} {s0 : Int64} : ∀ k, nA (mcA I o b0 l s0 k) ≤ nA s0 + k * 2 ^ 31 := by
  intro k
  induction k with
  | zero => unfold mcA; omega
  | succ k ih =>
    unfold mcA mcAS
    have a1 := nA_i (dsO I o l (-1))
    have a2 := nA_i (dsO I o l (I (o + 3) k))
    have b1 := nA_add (mcA I o b0 l s0 k) (dsO I o l (-1)).toInt64
    have b2 := nA_add (mcA I o b0 l s0 k) (dsO I o l (I (o + 3) k)).toInt64
    repeat' split
    all_goals (first | exact le_step ih (Nat.le_add_right _ _) | exact le_step ih (Nat.le_trans b1 (Nat.add_le_add_left a1 _)) | exact le_step ih (Nat.le_trans b2 (Nat.add_le_add_left a2 _)))
theorem mcB_le {I : mI} {o nl : Nat} (hnl : nl ≤ 10) {b0 : Int32} {s0 : Int64} : ∀ k, nA (mcB I o nl b0 s0 k) ≤ nA s0 + k * 21474836480 := by
  intro k
  induction k with
  | zero => unfold mcB; omega
  | succ k ih =>
    unfold mcB mcBS
    have := mcA_le (I := I) (o := o) (l := k) (b0 := b0) (s0 := mcB I o nl b0 s0 k) nl
    refine Nat.le_trans this (Nat.le_trans (Nat.add_le_add ih (show nl * 2 ^ 31 ≤ 21474836480 by omega)) ?_)
    rw [Nat.succ_mul]
    exact Nat.le_of_eq (Nat.add_assoc _ _ _)
theorem meC_lt {I : mI} {o h nl : Nat} (hnl : nl ≤ 10) : nA (meC I o h nl) < 2 ^ 63 := by
  have h1 := mcB_le (I := I) (o := o) hnl (b0 := nI (ltC I o h nl)) (s0 := (I (o + 1) h).toInt64 * lN (mxC I o h nl)) nl
  have h2 := nA_mul (I (o + 1) h).toInt64 (lN (mxC I o h nl))
  have ho10 := onesN_le (nI (ltC I o h nl)) 10
  have hmx : mxC I o h nl ≤ 10 := Nat.max_le.mpr ⟨by decide, ho10⟩
  rw [nA_lN (by omega)] at h2
  have h3 := nA_i (I (o + 1) h)
  have h4 : nA (I (o + 1) h).toInt64 * mxC I o h nl ≤ 2 ^ 31 * 10 := Nat.mul_le_mul h3 hmx
  have h5 : nl * 21474836480 ≤ 10 * 21474836480 := Nat.mul_le_mul_right _ hnl
  unfold meC
  omega
theorem scN_le {I : mI} {o nl h p t : Nat} (hp : p ≤ 10) {mo : Int32} : ∀ k, scN I o nl h p (onesN (nI t) 10) t mo 0 k ≤ k * 10 ^ 10 := by
  intro k
  induction k with
  | zero => exact Nat.zero_le _
  | succ k ih =>
    have e : scN I o nl h p (onesN (nI t) 10) t mo 0 (k + 1) = scNS I o nl h p (onesN (nI t) 10) t mo k (scN I o nl h p (onesN (nI t) 10) t mo 0 k) := rfl
    rw [e]
    generalize scN I o nl h p (onesN (nI t) 10) t mo 0 k = s at ih ⊢
    rw [← Nat.zero_add (k * 10 ^ 10)] at ih
    rw [← Nat.zero_add ((k + 1) * 10 ^ 10)]
    unfold scNS
    by_cases h1 : (nI k &&& (nI t ^^^ -1)) = 0
    · have h2 := ones_sub h1
      have h3 : p ^ onesN (nI k) 10 * (10 - p) ^ (onesN (nI t) 10 - onesN (nI k) 10) ≤ 10 ^ 10 := Nat.le_trans (Nat.mul_le_mul (Nat.pow_le_pow_left hp _) (Nat.pow_le_pow_left (Nat.sub_le 10 p) _)) (pow_le h2 (onesN_le _ _))
      repeat' split
      all_goals (first | exact le_step ih (Nat.le_add_right _ _) | exact le_step ih (Nat.add_le_add_left h3 _))
    · rw [if_neg h1]
      exact le_step ih (Nat.le_add_right _ _)
theorem spC_lt {I : mI} {o nl h p : Nat} (hnl : nl ≤ 10) (hp : p ≤ 10) {mo : Int32} : spC I o nl h p mo < 2 ^ 63 := by
  have h1 := scN_le (I := I) (o := o) (nl := nl) (h := h) (t := ltC I o h nl) hp (mo := mo) (2 ^ nl)
  have h2 : 2 ^ nl ≤ 1024 := P_le rfl hnl
  have h3 : 2 ^ nl * 10 ^ 10 ≤ 1024 * 10 ^ 10 := Nat.mul_le_mul_right _ h2
  unfold spC
  omega
theorem hcN_cn {I : mI} {o nh nl q : Nat} {x : Int64} {f : Nat → Int32} : ∀ k, (hcN I o nh nl q (x, 0, f) k).2.1 = cnN q k := by
  intro k
  induction k with
  | zero => rfl
  | succ k ih =>
    have e : hcN I o nh nl q (x, 0, f) (k + 1) = hcNS I o nh nl q k (hcN I o nh nl q (x, 0, f) k) := rfl
    rw [e]
    unfold cnN hcNS
    by_cases h : onesN (nI k) 10 = q
    · rw [if_pos h, if_pos h]
      show (hcN I o nh nl q (x, 0, f) k).2.1 + 1 = _
      rw [ih]
    · rw [if_neg h, if_neg h]
      exact ih
theorem hcN_le {I : mI} {o nh nl q : Nat} {s0 : Int64 × Nat × (Nat → Int32)} : ∀ k, nA (hcN I o nh nl q s0 k).1 ≤ nA s0.1 + k * 2 ^ 31 := by
  intro k
  induction k with
  | zero => unfold hcN; omega
  | succ k ih =>
    have e : hcN I o nh nl q s0 (k + 1) = hcNS I o nh nl q k (hcN I o nh nl q s0 k) := rfl
    rw [e]
    unfold hcNS
    split
    · have h1 := nA_add (hcN I o nh nl q s0 k).1 ((mbT I o nh nl (nI k) (hcN I o nh nl q s0 k).2.2).1).toInt64
      have h2 := nA_i (mbT I o nh nl (nI k) (hcN I o nh nl q s0 k).2.2).1
      exact le_step ih (Nat.le_trans h1 (Nat.add_le_add_left h2 _))
    · exact le_step ih (Nat.le_add_right _ _)
theorem hoC_lt {I : mI} {o nh nl q : Nat} (hnl : nl ≤ 10) : nA (hoC I o nh nl q).1 < 2 ^ 63 := by
  have h1 := hcN_le (I := I) (o := o) (nh := nh) (nl := nl) (q := q) (s0 := (0, 0, I 94)) (2 ^ nl)
  have h2 : 2 ^ nl ≤ 1024 := P_le rfl hnl
  have h3 : 2 ^ nl * 2 ^ 31 ≤ 1024 * 2 ^ 31 := Nat.mul_le_mul_right _ h2
  have h4 : nA ((0 : Int64), (0 : Nat), I 94).1 = 0 := rfl
  unfold hoC
  omega
theorem hoC_cn {I : mI} {o nh nl q : Nat} : (hoC I o nh nl q).2.1 = cnN q (2 ^ nl) := hcN_cn _
theorem q_S_mean0 {S : Nat × (Nat → Int32)} {d n : Nat} {I : mI} {J : mJ} {R : mR} (hn : 122 ≤ n) (hR : m_fin R) {x : Int32} (h0 : f_of x (I 3 0) = 0) {y u : Int32}  : AW S (d + 4) YS_mean n n (qV I R (.long (-1000000000000))) 0 [(0, .ref 0), (1, .int x), (2, .int y), (3, .int u)] [] I J R n := by
  refine a_aload_n 0 dS_mean_0 rfl rfl ?_
  refine a_geta (r := 1) dS_mean_1 fl11_10 rfl ly_0 (by omega) (rf_0_0 hR) ?_
  refine a_iload_n 1 dS_mean_4 rfl rfl ?_
  refine a_callV (Q' := m_res (some (.null)) I J R) (as := [.int x]) (st := []) dS_mean_5 ml11_101 rfl (Nat.le_of_ble_eq_true rfl) ly_1 rfl rfl (by decide) (by omega) (Nat.le_of_ble_eq_true rfl) rfl (Nat.le_refl _) (Nat.le_refl _) (c_Told_officeAt0 hn hR h0) (m_go ?_)
  show AW _ _ _ _ _ _ _ _ [.null] _ _ _ _
  refine a_astoreN (lv' := [(4, .null), (0, .ref 0), (1, .int x), (2, .int y), (3, .int u)]) dS_mean_8 (by decide) rfl ?_
  refine a_aloadN 0 dS_mean_10 rfl ?_
  refine a_ifnullN (tgt := 24) dS_mean_12 (by decide) ?_
  refine a_ldc2 (v := (-1000000000000)) dS_mean_24 cn11_145 ?_
  exact a_lret dS_mean_27 rfl ⟨rfl, KP.refl, (KF.refl hR)⟩
theorem q_S_mean1 {S : Nat × (Nat → Int32)} {d n : Nat} {I : mI} {J : mJ} {R : mR} (hn : 122 ≤ n) (hR : m_fin R) {o nh nl : Nat} (ho : o ∈ m_offs) (hr : offR R o) (hon : o + 8 < n) (hh : I o 0 = nI nh) (hnh : nh ≤ 6) (hl : I o 1 = nI nl) (hnl : nl ≤ 10) (hW : WFc I o nl) (hH : WFh (I (o + 2)) nl) {k : Nat} (h1 : f_of (nI k) (I 3 0) = 1) (hk : k < 2) (hro : R 4 k = some o) {y : Int32} (hy : f_of y (nI nh) = 0) {u : Int32}  : AW S (d + 4) YS_mean n n (qV I R (.long (-1000000000000))) 0 [(0, .ref 0), (1, .int (nI k)), (2, .int y), (3, .int u)] [] I J R n := by
  refine a_aload_n 0 dS_mean_0 rfl rfl ?_
  refine a_geta (r := 1) dS_mean_1 fl11_10 rfl ly_0 (by omega) (rf_0_0 hR) ?_
  refine a_iload_n 1 dS_mean_4 rfl rfl ?_
  refine a_callV (Q' := m_res (some (.ref o)) I J R) (as := [.int (nI k)]) (st := []) dS_mean_5 ml11_101 rfl (Nat.le_of_ble_eq_true rfl) ly_1 rfl rfl (by decide) (by omega) (Nat.le_of_ble_eq_true rfl) rfl (Nat.le_refl _) (Nat.le_refl _) (c_Told_officeAt1 hn hR h1 hk hro) (m_go ?_)
  show AW _ _ _ _ _ _ _ _ [.ref o] _ _ _ _
  refine a_astore (lv' := [(4, .ref o), (0, .ref 0), (1, .int (nI k)), (2, .int y), (3, .int u)]) dS_mean_8 (by decide) rfl ?_
  refine a_aload 0 dS_mean_10 rfl ?_
  refine a_ifnull dS_mean_12 ?_
  refine a_aload 0 dS_mean_15 rfl ?_
  refine a_iload_n 3 dS_mean_17 rfl rfl ?_
  refine a_callV (Q' := m_res (some (.int (f_of y (nI nh)))) I J R) (as := [.int y]) (st := []) dS_mean_18 ml11_135 rfl (Nat.le_of_ble_eq_true rfl) (of_l0 ho) rfl rfl (by decide) (by omega) (Nat.le_of_ble_eq_true rfl) rfl (Nat.le_refl _) (Nat.le_refl _) (by have h := c_Office_hasHouse (S := S) (d := d + 3) (n := n) (J := J) (R := R) (I := I) (h := y) ho hr hon; rw [hh] at h; exact h) (m_go ?_)
  show AW _ _ _ _ _ _ _ _ [.int (f_of y (nI nh))] _ _ _ _
  refine a_if_ne (tgt := 28) dS_mean_21 (by decide) (fun c => False.elim (c hy)) (fun _ => ?_)
  refine a_ldc2 (v := (-1000000000000)) dS_mean_24 cn11_145 ?_
  exact a_lret dS_mean_27 rfl ⟨rfl, KP.refl, (KF.refl hR)⟩
theorem q_S_mean2 {S : Nat × (Nat → Int32)} {d n : Nat} {I : mI} {J : mJ} {R : mR} (hn : 122 ≤ n) (hR : m_fin R) {o nh nl : Nat} (ho : o ∈ m_offs) (hr : offR R o) (hon : o + 8 < n) (hh : I o 0 = nI nh) (hnh : nh ≤ 6) (hl : I o 1 = nI nl) (hnl : nl ≤ 10) (hW : WFc I o nl) (hH : WFh (I (o + 2)) nl) {k : Nat} (h1 : f_of (nI k) (I 3 0) = 1) (hk : k < 2) (hro : R 4 k = some o) {h : Nat} (hh6 : h < nh) {u : Int32}  : AW S (d + 4) YS_mean n n (qV I R (.long (ptF (meC I o h nl) (lN (mxC I o h nl)) u))) 0 [(0, .ref 0), (1, .int (nI k)), (2, .int (nI h)), (3, .int u)] [] I J R n := by
  have ho10 := onesN_le (nI (ltC I o h nl)) 10
  have hmx : mxC I o h nl ≤ 10 ∧ 1 ≤ mxC I o h nl := ⟨Nat.max_le.mpr ⟨by decide, ho10⟩, Nat.le_max_left _ _⟩
  refine a_aload_n 0 dS_mean_0 rfl rfl ?_
  refine a_geta (r := 1) dS_mean_1 fl11_10 rfl ly_0 (by omega) (rf_0_0 hR) ?_
  refine a_iload_n 1 dS_mean_4 rfl rfl ?_
  refine a_callV (Q' := m_res (some (.ref o)) I J R) (as := [.int (nI k)]) (st := []) dS_mean_5 ml11_101 rfl (Nat.le_of_ble_eq_true rfl) ly_1 rfl rfl (by decide) (by omega) (Nat.le_of_ble_eq_true rfl) rfl (Nat.le_refl _) (Nat.le_refl _) (c_Told_officeAt1 hn hR h1 hk hro) (m_go ?_)
  show AW _ _ _ _ _ _ _ _ [.ref o] _ _ _ _
  refine a_astore (lv' := [(4, .ref o), (0, .ref 0), (1, .int (nI k)), (2, .int (nI h)), (3, .int u)]) dS_mean_8 (by decide) rfl ?_
  refine a_aload 0 dS_mean_10 rfl ?_
  refine a_ifnull dS_mean_12 ?_
  refine a_aload 0 dS_mean_15 rfl ?_
  refine a_iload_n 3 dS_mean_17 rfl rfl ?_
  refine a_callV (Q' := m_res (some (.int (f_of (nI h) (nI nh)))) I J R) (as := [.int (nI h)]) (st := []) dS_mean_18 ml11_135 rfl (Nat.le_of_ble_eq_true rfl) (of_l0 ho) rfl rfl (by decide) (by omega) (Nat.le_of_ble_eq_true rfl) rfl (Nat.le_refl _) (Nat.le_refl _) (by have h := c_Office_hasHouse (S := S) (d := d + 3) (n := n) (J := J) (R := R) (I := I) (h := (nI h)) ho hr hon; rw [hh] at h; exact h) (m_go ?_)
  show AW _ _ _ _ _ _ _ _ [.int (f_of (nI h) (nI nh))] _ _ _ _
  refine a_if_ne (tgt := 28) dS_mean_21 (by decide) (fun _ => ?_) (fun c => False.elim (absurd c (by rw [f_of_n (by omega) hh6]; decide)))
  refine a_aload_n 1 dS_mean_28 rfl rfl ?_
  refine a_geta (r := 92) dS_mean_29 fl11_65 rfl ly_0 (by omega) (rf_0_8 hR) ?_
  refine a_aload 0 dS_mean_32 rfl ?_
  refine a_iload_n 3 dS_mean_34 rfl rfl ?_
  refine a_callV (Q' := m_res none I (chJ J (meC I o h nl) (lN (mxC I o h nl))) R) (as := [.ref o, .int (nI h)]) (st := []) dS_mean_35 ml11_147 rfl (Nat.le_of_ble_eq_true rfl) ly_92 rfl rfl (by decide) (by omega) (Nat.le_of_ble_eq_true rfl) rfl (Nat.le_refl _) (Nat.le_refl _) (c_Chances_findMean hn hR ho hr hon hh hnh hl hnl hW hH hh6) (m_go ?_)
  show AW _ _ _ _ _ _ _ _ [] _ _ _ _
  refine a_aload_n 1 dS_mean_38 rfl rfl ?_
  refine a_geta (r := 92) dS_mean_39 fl11_65 rfl ly_0 (by omega) (rf_0_8 hR) ?_
  refine a_iload_n 4 dS_mean_42 rfl rfl ?_
  refine a_callV (Q' := m_res (some (.long (ptF (meC I o h nl) (lN (mxC I o h nl)) u))) I (chJ J (meC I o h nl) (lN (mxC I o h nl))) R) (as := [.int u]) (st := []) dS_mean_43 ml11_151 rfl (Nat.le_of_ble_eq_true rfl) ly_92 rfl rfl (by decide) (by omega) (Nat.le_of_ble_eq_true rfl) rfl (Nat.le_refl _) (Nat.le_refl _) (c_Chances_answer (J := (chJ J (meC I o h nl) (lN (mxC I o h nl)))) (q := (mxC I o h nl)) hn (hR) (meC_lt hnl) rfl (by omega) (by omega)) (m_go ?_)
  show AW _ _ _ _ _ _ _ _ [.long (ptF (meC I o h nl) (lN (mxC I o h nl)) u)] _ _ _ _
  exact a_lret dS_mean_46 rfl ⟨rfl, KP.refl, (KF.refl hR)⟩
theorem q_S_spared0 {S : Nat × (Nat → Int32)} {d n : Nat} {I : mI} {J : mJ} {R : mR} (hn : 122 ≤ n) (hR : m_fin R) {x : Int32} (h0 : f_of x (I 3 0) = 0) {y z t u : Int32}  : AW S (d + 4) YS_spared n n (qV I R (.long (-1))) 0 [(0, .ref 0), (1, .int x), (2, .int y), (3, .int z), (4, .int t), (5, .int u)] [] I J R n := by
  refine a_aload_n 0 dS_spared_0 rfl rfl ?_
  refine a_geta (r := 1) dS_spared_1 fl11_10 rfl ly_0 (by omega) (rf_0_0 hR) ?_
  refine a_iload_n 1 dS_spared_4 rfl rfl ?_
  refine a_callV (Q' := m_res (some (.null)) I J R) (as := [.int x]) (st := []) dS_spared_5 ml11_101 rfl (Nat.le_of_ble_eq_true rfl) ly_1 rfl rfl (by decide) (by omega) (Nat.le_of_ble_eq_true rfl) rfl (Nat.le_refl _) (Nat.le_refl _) (c_Told_officeAt0 hn hR h0) (m_go ?_)
  show AW _ _ _ _ _ _ _ _ [.null] _ _ _ _
  refine a_astoreN (lv' := [(6, .null), (0, .ref 0), (1, .int x), (2, .int y), (3, .int z), (4, .int t), (5, .int u)]) dS_spared_8 (by decide) rfl ?_
  refine a_aloadN 0 dS_spared_10 rfl ?_
  refine a_ifnullN (tgt := 24) dS_spared_12 (by decide) ?_
  refine a_ldc2 (v := (-1)) dS_spared_24 cn11_154 ?_
  exact a_lret dS_spared_27 rfl ⟨rfl, KP.refl, (KF.refl hR)⟩
theorem q_S_spared1 {S : Nat × (Nat → Int32)} {d n : Nat} {I : mI} {J : mJ} {R : mR} (hn : 122 ≤ n) (hR : m_fin R) {o nh nl : Nat} (ho : o ∈ m_offs) (hr : offR R o) (hon : o + 8 < n) (hh : I o 0 = nI nh) (hnh : nh ≤ 6) (hl : I o 1 = nI nl) (hnl : nl ≤ 10) (hW : WFc I o nl) (hH : WFh (I (o + 2)) nl) {k : Nat} (h1 : f_of (nI k) (I 3 0) = 1) (hk : k < 2) (hro : R 4 k = some o) {y : Int32} (hy : f_of y (nI nh) = 0) {z t u : Int32}  : AW S (d + 4) YS_spared n n (qV I R (.long (-1))) 0 [(0, .ref 0), (1, .int (nI k)), (2, .int y), (3, .int z), (4, .int t), (5, .int u)] [] I J R n := by
  refine a_aload_n 0 dS_spared_0 rfl rfl ?_
  refine a_geta (r := 1) dS_spared_1 fl11_10 rfl ly_0 (by omega) (rf_0_0 hR) ?_
  refine a_iload_n 1 dS_spared_4 rfl rfl ?_
  refine a_callV (Q' := m_res (some (.ref o)) I J R) (as := [.int (nI k)]) (st := []) dS_spared_5 ml11_101 rfl (Nat.le_of_ble_eq_true rfl) ly_1 rfl rfl (by decide) (by omega) (Nat.le_of_ble_eq_true rfl) rfl (Nat.le_refl _) (Nat.le_refl _) (c_Told_officeAt1 hn hR h1 hk hro) (m_go ?_)
  show AW _ _ _ _ _ _ _ _ [.ref o] _ _ _ _
  refine a_astore (lv' := [(6, .ref o), (0, .ref 0), (1, .int (nI k)), (2, .int y), (3, .int z), (4, .int t), (5, .int u)]) dS_spared_8 (by decide) rfl ?_
  refine a_aload 0 dS_spared_10 rfl ?_
  refine a_ifnull dS_spared_12 ?_
  refine a_aload 0 dS_spared_15 rfl ?_
  refine a_iload_n 3 dS_spared_17 rfl rfl ?_
  refine a_callV (Q' := m_res (some (.int (f_of y (nI nh)))) I J R) (as := [.int y]) (st := []) dS_spared_18 ml11_135 rfl (Nat.le_of_ble_eq_true rfl) (of_l0 ho) rfl rfl (by decide) (by omega) (Nat.le_of_ble_eq_true rfl) rfl (Nat.le_refl _) (Nat.le_refl _) (by have h := c_Office_hasHouse (S := S) (d := d + 3) (n := n) (J := J) (R := R) (I := I) (h := y) ho hr hon; rw [hh] at h; exact h) (m_go ?_)
  show AW _ _ _ _ _ _ _ _ [.int (f_of y (nI nh))] _ _ _ _
  refine a_if_ne (tgt := 28) dS_spared_21 (by decide) (fun c => False.elim (c hy)) (fun _ => ?_)
  refine a_ldc2 (v := (-1)) dS_spared_24 cn11_154 ?_
  exact a_lret dS_spared_27 rfl ⟨rfl, KP.refl, (KF.refl hR)⟩
theorem q_S_spared2 {S : Nat × (Nat → Int32)} {d n : Nat} {I : mI} {J : mJ} {R : mR} (hn : 122 ≤ n) (hR : m_fin R) {o nh nl : Nat} (ho : o ∈ m_offs) (hr : offR R o) (hon : o + 8 < n) (hh : I o 0 = nI nh) (hnh : nh ≤ 6) (hl : I o 1 = nI nl) (hnl : nl ≤ 10) (hW : WFc I o nl) (hH : WFh (I (o + 2)) nl) {k : Nat} (h1 : f_of (nI k) (I 3 0) = 1) (hk : k < 2) (hro : R 4 k = some o) {h : Nat} (hh6 : h < nh) {z t u : Int32} (hzt : z < 0 ∨ nI 10 < z ∨ t < 0 ∨ nI 99 < t)  : AW S (d + 4) YS_spared n n (qV I R (.long (-1))) 0 [(0, .ref 0), (1, .int (nI k)), (2, .int (nI h)), (3, .int z), (4, .int t), (5, .int u)] [] I J R n := by
  refine a_aload_n 0 dS_spared_0 rfl rfl ?_
  refine a_geta (r := 1) dS_spared_1 fl11_10 rfl ly_0 (by omega) (rf_0_0 hR) ?_
  refine a_iload_n 1 dS_spared_4 rfl rfl ?_
  refine a_callV (Q' := m_res (some (.ref o)) I J R) (as := [.int (nI k)]) (st := []) dS_spared_5 ml11_101 rfl (Nat.le_of_ble_eq_true rfl) ly_1 rfl rfl (by decide) (by omega) (Nat.le_of_ble_eq_true rfl) rfl (Nat.le_refl _) (Nat.le_refl _) (c_Told_officeAt1 hn hR h1 hk hro) (m_go ?_)
  show AW _ _ _ _ _ _ _ _ [.ref o] _ _ _ _
  refine a_astore (lv' := [(6, .ref o), (0, .ref 0), (1, .int (nI k)), (2, .int (nI h)), (3, .int z), (4, .int t), (5, .int u)]) dS_spared_8 (by decide) rfl ?_
  refine a_aload 0 dS_spared_10 rfl ?_
  refine a_ifnull dS_spared_12 ?_
  refine a_aload 0 dS_spared_15 rfl ?_
  refine a_iload_n 3 dS_spared_17 rfl rfl ?_
  refine a_callV (Q' := m_res (some (.int (f_of (nI h) (nI nh)))) I J R) (as := [.int (nI h)]) (st := []) dS_spared_18 ml11_135 rfl (Nat.le_of_ble_eq_true rfl) (of_l0 ho) rfl rfl (by decide) (by omega) (Nat.le_of_ble_eq_true rfl) rfl (Nat.le_refl _) (Nat.le_refl _) (by have h := c_Office_hasHouse (S := S) (d := d + 3) (n := n) (J := J) (R := R) (I := I) (h := (nI h)) ho hr hon; rw [hh] at h; exact h) (m_go ?_)
  show AW _ _ _ _ _ _ _ _ [.int (f_of (nI h) (nI nh))] _ _ _ _
  refine a_if_ne (tgt := 28) dS_spared_21 (by decide) (fun _ => ?_) (fun c => False.elim (absurd c (by rw [f_of_n (by omega) hh6]; decide)))
  refine a_iload_n 4 dS_spared_28 rfl rfl ?_
  refine a_if_lt (tgt := 50) dS_spared_29 (by decide) (fun c29 => ?_) (fun c29 => ?_)
  · refine a_ldc2 (v := (-1)) dS_spared_50 cn11_154 ?_
    exact a_lret dS_spared_53 rfl ⟨rfl, KP.refl, (KF.refl hR)⟩
  · refine a_iload_n 4 dS_spared_32 rfl rfl ?_
    refine a_bipushN (a := 10) dS_spared_33 (by decide) ?_
    refine a_icmp_gt (tgt := 50) dS_spared_35 (by decide) (fun c35 => ?_) (fun c35 => ?_)
    · refine a_ldc2 (v := (-1)) dS_spared_50 cn11_154 ?_
      exact a_lret dS_spared_53 rfl ⟨rfl, KP.refl, (KF.refl hR)⟩
    · refine a_iload 5 dS_spared_38 rfl ?_
      refine a_if_lt (tgt := 50) dS_spared_40 (by decide) (fun c40 => ?_) (fun c40 => ?_)
      · refine a_ldc2 (v := (-1)) dS_spared_50 cn11_154 ?_
        exact a_lret dS_spared_53 rfl ⟨rfl, KP.refl, (KF.refl hR)⟩
      · refine a_iload 5 dS_spared_43 rfl ?_
        refine a_bipushN (a := 99) dS_spared_45 (by decide) ?_
        refine a_icmp_le (tgt := 54) dS_spared_47 (by decide) (fun c47 => ?_) (fun c47 => ?_)
        · exfalso
          rcases hzt with h | h | h | h
          · exact c29 h
          · exact c35 h
          · exact c40 h
          · exact absurd c47 (Int32.not_le.mpr h)
        · refine a_ldc2 (v := (-1)) dS_spared_50 cn11_154 ?_
          exact a_lret dS_spared_53 rfl ⟨rfl, KP.refl, (KF.refl hR)⟩
theorem q_S_spared3 {S : Nat × (Nat → Int32)} {d n : Nat} {I : mI} {J : mJ} {R : mR} (hn : 122 ≤ n) (hR : m_fin R) {o nh nl : Nat} (ho : o ∈ m_offs) (hr : offR R o) (hon : o + 8 < n) (hh : I o 0 = nI nh) (hnh : nh ≤ 6) (hl : I o 1 = nI nl) (hnl : nl ≤ 10) (hW : WFc I o nl) (hH : WFh (I (o + 2)) nl) {k : Nat} (h1 : f_of (nI k) (I 3 0) = 1) (hk : k < 2) (hro : R 4 k = some o) {h : Nat} (hh6 : h < nh) {p m : Nat} (hp : p ≤ 10) (hm : m ≤ 99) {u : Int32}  : AW S (d + 4) YS_spared n n (qV I R (.long (ptF (lN (spC I o nl h p (nI m))) (lN (10 ^ onesN (nI (ltC I o h nl)) 10)) u))) 0 [(0, .ref 0), (1, .int (nI k)), (2, .int (nI h)), (3, .int (nI p)), (4, .int (nI m)), (5, .int u)] [] I J R n := by
  have hpw : 10 ^ onesN (nI (ltC I o h nl)) 10 < 2 ^ 63 := Nat.lt_of_le_of_lt (Nat.pow_le_pow_right (n := 10) (by decide) (onesN_le (nI (ltC I o h nl)) 10)) (by decide)
  refine a_aload_n 0 dS_spared_0 rfl rfl ?_
  refine a_geta (r := 1) dS_spared_1 fl11_10 rfl ly_0 (by omega) (rf_0_0 hR) ?_
  refine a_iload_n 1 dS_spared_4 rfl rfl ?_
  refine a_callV (Q' := m_res (some (.ref o)) I J R) (as := [.int (nI k)]) (st := []) dS_spared_5 ml11_101 rfl (Nat.le_of_ble_eq_true rfl) ly_1 rfl rfl (by decide) (by omega) (Nat.le_of_ble_eq_true rfl) rfl (Nat.le_refl _) (Nat.le_refl _) (c_Told_officeAt1 hn hR h1 hk hro) (m_go ?_)
  show AW _ _ _ _ _ _ _ _ [.ref o] _ _ _ _
  refine a_astore (lv' := [(6, .ref o), (0, .ref 0), (1, .int (nI k)), (2, .int (nI h)), (3, .int (nI p)), (4, .int (nI m)), (5, .int u)]) dS_spared_8 (by decide) rfl ?_
  refine a_aload 0 dS_spared_10 rfl ?_
  refine a_ifnull dS_spared_12 ?_
  refine a_aload 0 dS_spared_15 rfl ?_
  refine a_iload_n 3 dS_spared_17 rfl rfl ?_
  refine a_callV (Q' := m_res (some (.int (f_of (nI h) (nI nh)))) I J R) (as := [.int (nI h)]) (st := []) dS_spared_18 ml11_135 rfl (Nat.le_of_ble_eq_true rfl) (of_l0 ho) rfl rfl (by decide) (by omega) (Nat.le_of_ble_eq_true rfl) rfl (Nat.le_refl _) (Nat.le_refl _) (by have h := c_Office_hasHouse (S := S) (d := d + 3) (n := n) (J := J) (R := R) (I := I) (h := (nI h)) ho hr hon; rw [hh] at h; exact h) (m_go ?_)
  show AW _ _ _ _ _ _ _ _ [.int (f_of (nI h) (nI nh))] _ _ _ _
  refine a_if_ne (tgt := 28) dS_spared_21 (by decide) (fun _ => ?_) (fun c => False.elim (absurd c (by rw [f_of_n (by omega) hh6]; decide)))
  refine a_iload_n 4 dS_spared_28 rfl rfl ?_
  refine a_if_lt (tgt := 50) dS_spared_29 (by decide) (fun c => False.elim (nI_pos (by omega) c)) (fun _ => ?_)
  refine a_iload_n 4 dS_spared_32 rfl rfl ?_
  refine a_bipushN (a := 10) dS_spared_33 (by decide) ?_
  refine a_icmp_gtN (tgt := 50) dS_spared_35 (by decide) (by omega) (by omega) (fun c => False.elim (by omega)) (fun _ => ?_)
  refine a_iload 5 dS_spared_38 rfl ?_
  refine a_if_lt (tgt := 50) dS_spared_40 (by decide) (fun c => False.elim (nI_pos (by omega) c)) (fun _ => ?_)
  refine a_iload 5 dS_spared_43 rfl ?_
  refine a_bipushN (a := 99) dS_spared_45 (by decide) ?_
  refine a_icmp_leN (tgt := 54) dS_spared_47 (by decide) (by omega) (by omega) (fun _ => ?_) (fun c => False.elim (by omega))
  refine a_aload_n 1 dS_spared_54 rfl rfl ?_
  refine a_geta (r := 92) dS_spared_55 fl11_65 rfl ly_0 (by omega) (rf_0_8 hR) ?_
  refine a_aload 0 dS_spared_58 rfl ?_
  refine a_iload_n 3 dS_spared_60 rfl rfl ?_
  refine a_iload_n 4 dS_spared_61 rfl rfl ?_
  refine a_iload 5 dS_spared_62 rfl ?_
  refine a_callV (Q' := m_res none I (chJ J (lN (spC I o nl h p (nI m))) (lN (10 ^ onesN (nI (ltC I o h nl)) 10))) R) (as := [.ref o, .int (nI h), .int (nI p), .int (nI m)]) (st := []) dS_spared_64 ml11_156 rfl (Nat.le_of_ble_eq_true rfl) ly_92 rfl rfl (by decide) (by omega) (Nat.le_of_ble_eq_true rfl) rfl (Nat.le_refl _) (Nat.le_refl _) (c_Chances_findSpared hn hR ho hr hon hh hnh hl hnl hW hH hh6 hp) (m_go ?_)
  show AW _ _ _ _ _ _ _ _ [] _ _ _ _
  refine a_aload_n 1 dS_spared_67 rfl rfl ?_
  refine a_geta (r := 92) dS_spared_68 fl11_65 rfl ly_0 (by omega) (rf_0_8 hR) ?_
  refine a_iload 6 dS_spared_71 rfl ?_
  refine a_callV (Q' := m_res (some (.long (ptF (lN (spC I o nl h p (nI m))) (lN (10 ^ onesN (nI (ltC I o h nl)) 10)) u))) I (chJ J (lN (spC I o nl h p (nI m))) (lN (10 ^ onesN (nI (ltC I o h nl)) 10))) R) (as := [.int u]) (st := []) dS_spared_73 ml11_151 rfl (Nat.le_of_ble_eq_true rfl) ly_92 rfl rfl (by decide) (by omega) (Nat.le_of_ble_eq_true rfl) rfl (Nat.le_refl _) (Nat.le_refl _) (c_Chances_answer (J := (chJ J (lN (spC I o nl h p (nI m))) (lN (10 ^ onesN (nI (ltC I o h nl)) 10)))) (q := (10 ^ onesN (nI (ltC I o h nl)) 10)) hn (hR) (show nA (lN (spC I o nl h p (nI m))) < 2 ^ 63 by rw [nA_lN (spC_lt hnl hp)]; exact spC_lt hnl hp) rfl (Nat.pow_pos (by decide)) hpw) (m_go ?_)
  show AW _ _ _ _ _ _ _ _ [.long (ptF (lN (spC I o nl h p (nI m))) (lN (10 ^ onesN (nI (ltC I o h nl)) 10)) u)] _ _ _ _
  exact a_lret dS_spared_76 rfl ⟨rfl, KP.refl, (KF.refl hR)⟩
theorem q_S_hoped0 {S : Nat × (Nat → Int32)} {d n : Nat} {I : mI} {J : mJ} {R : mR} (hn : 122 ≤ n) (hR : m_fin R) {x : Int32} (h0 : f_of x (I 3 0) = 0) {y u : Int32}  : AW S (d + 4) YS_hoped n n (qV I R (.long (-1000000000000))) 0 [(0, .ref 0), (1, .int x), (2, .int y), (3, .int u)] [] I J R n := by
  refine a_aload_n 0 dS_hoped_0 rfl rfl ?_
  refine a_geta (r := 1) dS_hoped_1 fl11_10 rfl ly_0 (by omega) (rf_0_0 hR) ?_
  refine a_iload_n 1 dS_hoped_4 rfl rfl ?_
  refine a_callV (Q' := m_res (some (.null)) I J R) (as := [.int x]) (st := []) dS_hoped_5 ml11_101 rfl (Nat.le_of_ble_eq_true rfl) ly_1 rfl rfl (by decide) (by omega) (Nat.le_of_ble_eq_true rfl) rfl (Nat.le_refl _) (Nat.le_refl _) (c_Told_officeAt0 hn hR h0) (m_go ?_)
  show AW _ _ _ _ _ _ _ _ [.null] _ _ _ _
  refine a_astoreN (lv' := [(4, .null), (0, .ref 0), (1, .int x), (2, .int y), (3, .int u)]) dS_hoped_8 (by decide) rfl ?_
  refine a_aloadN 0 dS_hoped_10 rfl ?_
  refine a_ifnullN (tgt := 28) dS_hoped_12 (by decide) ?_
  refine a_ldc2 (v := (-1000000000000)) dS_hoped_28 cn11_145 ?_
  exact a_lret dS_hoped_31 rfl ⟨rfl, KP.refl, (KF.refl hR)⟩
theorem q_S_hoped1 {S : Nat × (Nat → Int32)} {d n : Nat} {I : mI} {J : mJ} {R : mR} (hn : 122 ≤ n) (hR : m_fin R) {o nh nl : Nat} (ho : o ∈ m_offs) (hr : offR R o) (hon : o + 8 < n) (hh : I o 0 = nI nh) (hnh : nh ≤ 6) (hl : I o 1 = nI nl) (hnl : nl ≤ 10) (hW : WFc I o nl) (hH : WFh (I (o + 2)) nl) {k : Nat} (h1 : f_of (nI k) (I 3 0) = 1) (hk : k < 2) (hro : R 4 k = some o) {y u : Int32} (hy : y < 0 ∨ nI nl < y)  : AW S (d + 4) YS_hoped n n (qV I R (.long (-1000000000000))) 0 [(0, .ref 0), (1, .int (nI k)), (2, .int y), (3, .int u)] [] I J R n := by
  refine a_aload_n 0 dS_hoped_0 rfl rfl ?_
  refine a_geta (r := 1) dS_hoped_1 fl11_10 rfl ly_0 (by omega) (rf_0_0 hR) ?_
  refine a_iload_n 1 dS_hoped_4 rfl rfl ?_
  refine a_callV (Q' := m_res (some (.ref o)) I J R) (as := [.int (nI k)]) (st := []) dS_hoped_5 ml11_101 rfl (Nat.le_of_ble_eq_true rfl) ly_1 rfl rfl (by decide) (by omega) (Nat.le_of_ble_eq_true rfl) rfl (Nat.le_refl _) (Nat.le_refl _) (c_Told_officeAt1 hn hR h1 hk hro) (m_go ?_)
  show AW _ _ _ _ _ _ _ _ [.ref o] _ _ _ _
  refine a_astore (lv' := [(4, .ref o), (0, .ref 0), (1, .int (nI k)), (2, .int y), (3, .int u)]) dS_hoped_8 (by decide) rfl ?_
  refine a_aload 0 dS_hoped_10 rfl ?_
  refine a_ifnull dS_hoped_12 ?_
  refine a_iload_n 3 dS_hoped_15 rfl rfl ?_
  refine a_if_lt (tgt := 28) dS_hoped_16 (by decide) (fun c16 => ?_) (fun c16 => ?_)
  · refine a_ldc2 (v := (-1000000000000)) dS_hoped_28 cn11_145 ?_
    exact a_lret dS_hoped_31 rfl ⟨rfl, KP.refl, (KF.refl hR)⟩
  · refine a_iload_n 3 dS_hoped_19 rfl rfl ?_
    refine a_aload 0 dS_hoped_20 rfl ?_
    refine a_geti dS_hoped_22 fl11_229 rfl (of_l0 ho) (by omega) ?_
    rw [show I o 1 = (nI nl) from hl]
    refine a_icmp_le (tgt := 32) dS_hoped_25 (by decide) (fun c25 => ?_) (fun c25 => ?_)
    · exfalso
      rcases hy with h | h
      · exact c16 h
      · exact absurd c25 (Int32.not_le.mpr h)
    · refine a_ldc2 (v := (-1000000000000)) dS_hoped_28 cn11_145 ?_
      exact a_lret dS_hoped_31 rfl ⟨rfl, KP.refl, (KF.refl hR)⟩
theorem q_S_hoped2 {S : Nat × (Nat → Int32)} {d n : Nat} {I : mI} {J : mJ} {R : mR} (hn : 122 ≤ n) (hR : m_fin R) {o nh nl : Nat} (ho : o ∈ m_offs) (hr : offR R o) (hon : o + 8 < n) (hh : I o 0 = nI nh) (hnh : nh ≤ 6) (hl : I o 1 = nI nl) (hnl : nl ≤ 10) (hW : WFc I o nl) (hH : WFh (I (o + 2)) nl) {k : Nat} (h1 : f_of (nI k) (I 3 0) = 1) (hk : k < 2) (hro : R 4 k = some o) {q : Nat} (hq : q ≤ nl) {u : Int32}  : AW S (d + 4) YS_hoped n n (qV I R (.long (ptF (hoC I o nh nl q).1 (lN (cnN q (2 ^ nl))) u))) 0 [(0, .ref 0), (1, .int (nI k)), (2, .int (nI q)), (3, .int u)] [] I J R n := by
  have hP2 := P_le (nl := nl) rfl hnl
  have hc1 := cnN_P (nl := nl) rfl hq hnl
  have hc2 := cnN_le q (2 ^ nl)
  refine a_aload_n 0 dS_hoped_0 rfl rfl ?_
  refine a_geta (r := 1) dS_hoped_1 fl11_10 rfl ly_0 (by omega) (rf_0_0 hR) ?_
  refine a_iload_n 1 dS_hoped_4 rfl rfl ?_
  refine a_callV (Q' := m_res (some (.ref o)) I J R) (as := [.int (nI k)]) (st := []) dS_hoped_5 ml11_101 rfl (Nat.le_of_ble_eq_true rfl) ly_1 rfl rfl (by decide) (by omega) (Nat.le_of_ble_eq_true rfl) rfl (Nat.le_refl _) (Nat.le_refl _) (c_Told_officeAt1 hn hR h1 hk hro) (m_go ?_)
  show AW _ _ _ _ _ _ _ _ [.ref o] _ _ _ _
  refine a_astore (lv' := [(4, .ref o), (0, .ref 0), (1, .int (nI k)), (2, .int (nI q)), (3, .int u)]) dS_hoped_8 (by decide) rfl ?_
  refine a_aload 0 dS_hoped_10 rfl ?_
  refine a_ifnull dS_hoped_12 ?_
  refine a_iload_n 3 dS_hoped_15 rfl rfl ?_
  refine a_if_lt (tgt := 28) dS_hoped_16 (by decide) (fun c => False.elim (nI_pos (by omega) c)) (fun _ => ?_)
  refine a_iload_n 3 dS_hoped_19 rfl rfl ?_
  refine a_aload 0 dS_hoped_20 rfl ?_
  refine a_geti dS_hoped_22 fl11_229 rfl (of_l0 ho) (by omega) ?_
  rw [show I o 1 = (nI nl) from hl]
  refine a_icmp_leN (tgt := 32) dS_hoped_25 (by decide) (by omega) (by omega) (fun _ => ?_) (fun c => False.elim (by omega))
  refine a_aload_n 1 dS_hoped_32 rfl rfl ?_
  refine a_geta (r := 92) dS_hoped_33 fl11_65 rfl ly_0 (by omega) (rf_0_8 hR) ?_
  refine a_aload 0 dS_hoped_36 rfl ?_
  refine a_iload_n 3 dS_hoped_38 rfl rfl ?_
  refine a_callV (Q' := m_res none (m_row I 94 (hoC I o nh nl q).2.2) (chJ J ((hoC I o nh nl q).1) (lN (cnN q (2 ^ nl)))) R) (as := [.ref o, .int (nI q)]) (st := []) dS_hoped_39 ml11_232 rfl (Nat.le_of_ble_eq_true rfl) ly_92 rfl rfl (by decide) (by omega) (Nat.le_of_ble_eq_true rfl) rfl (Nat.le_refl _) (Nat.le_refl _) (by have h := c_Chances_findHoped (S := S) (d := d + 1) (J := J) hn hR ho hr hon hh hnh hl hnl hW hH hq; rw [hoC_cn] at h; exact h) (m_go ?_)
  show AW _ _ _ _ _ _ _ _ [] _ _ _ _
  refine a_aload_n 1 dS_hoped_42 rfl rfl ?_
  refine a_geta (r := 92) dS_hoped_43 fl11_65 rfl ly_0 (by omega) (rf_0_8 hR) ?_
  refine a_iload_n 4 dS_hoped_46 rfl rfl ?_
  refine a_callV (Q' := m_res (some (.long (ptF ((hoC I o nh nl q).1) (lN (cnN q (2 ^ nl))) u))) (m_row I 94 (hoC I o nh nl q).2.2) (chJ J ((hoC I o nh nl q).1) (lN (cnN q (2 ^ nl)))) R) (as := [.int u]) (st := []) dS_hoped_47 ml11_151 rfl (Nat.le_of_ble_eq_true rfl) ly_92 rfl rfl (by decide) (by omega) (Nat.le_of_ble_eq_true rfl) rfl (Nat.le_refl _) (Nat.le_refl _) (c_Chances_answer (J := (chJ J ((hoC I o nh nl q).1) (lN (cnN q (2 ^ nl))))) (q := (cnN q (2 ^ nl))) hn (hR) (hoC_lt hnl) rfl hc1 (by omega)) (m_go ?_)
  show AW _ _ _ _ _ _ _ _ [.long (ptF ((hoC I o nh nl q).1) (lN (cnN q (2 ^ nl))) u)] _ _ _ _
  exact a_lret dS_hoped_50 rfl ⟨rfl, (KP.row KP.refl (by omega)), (KF.refl hR)⟩
theorem q_S_strike0 {S : Nat × (Nat → Int32)} {d n : Nat} {I : mI} {J : mJ} {R : mR} (hn : 122 ≤ n) (hR : m_fin R) {x : Int32} (h0 : f_of x (I 3 0) = 0) {y u : Int32}  : AW S (d + 23) YS_strike n n (qV I R (.long (-1))) 0 [(0, .ref 0), (1, .int x), (2, .int y), (3, .int u)] [] I J R n := by
  refine a_aload_n 0 dS_strike_0 rfl rfl ?_
  refine a_geta (r := 1) dS_strike_1 fl11_10 rfl ly_0 (by omega) (rf_0_0 hR) ?_
  refine a_iload_n 1 dS_strike_4 rfl rfl ?_
  refine a_callV (Q' := m_res (some (.null)) I J R) (as := [.int x]) (st := []) dS_strike_5 ml11_101 rfl (Nat.le_of_ble_eq_true rfl) ly_1 rfl rfl (by decide) (by omega) (Nat.le_of_ble_eq_true rfl) rfl (Nat.le_refl _) (Nat.le_refl _) (c_Told_officeAt0 hn hR h0) (m_go ?_)
  show AW _ _ _ _ _ _ _ _ [.null] _ _ _ _
  refine a_astoreN (lv' := [(4, .null), (0, .ref 0), (1, .int x), (2, .int y), (3, .int u)]) dS_strike_8 (by decide) rfl ?_
  refine a_aloadN 0 dS_strike_10 rfl ?_
  refine a_ifnullN (tgt := 33) dS_strike_12 (by decide) ?_
  refine a_ldc2 (v := (-1)) dS_strike_33 cn11_154 ?_
  exact a_lret dS_strike_36 rfl ⟨rfl, KP.refl, (KF.refl hR)⟩
theorem q_S_strike1 {S : Nat × (Nat → Int32)} {d n : Nat} {I : mI} {J : mJ} {R : mR} (hn : 122 ≤ n) (hR : m_fin R) {o nh nl : Nat} (ho : o ∈ m_offs) (hr : offR R o) (hon : o + 8 < n) (hh : I o 0 = nI nh) (hnh : nh ≤ 6) (hl : I o 1 = nI nl) (hnl : nl ≤ 10) (hW : WFc I o nl) (hH : WFh (I (o + 2)) nl) {k : Nat} (h1 : f_of (nI k) (I 3 0) = 1) (hk : k < 2) (hro : R 4 k = some o) {y u : Int32} (hy : y < 0 ∨ nI 3 < y ∨ nI nl < y)  : AW S (d + 23) YS_strike n n (qV I R (.long (-1))) 0 [(0, .ref 0), (1, .int (nI k)), (2, .int y), (3, .int u)] [] I J R n := by
  refine a_aload_n 0 dS_strike_0 rfl rfl ?_
  refine a_geta (r := 1) dS_strike_1 fl11_10 rfl ly_0 (by omega) (rf_0_0 hR) ?_
  refine a_iload_n 1 dS_strike_4 rfl rfl ?_
  refine a_callV (Q' := m_res (some (.ref o)) I J R) (as := [.int (nI k)]) (st := []) dS_strike_5 ml11_101 rfl (Nat.le_of_ble_eq_true rfl) ly_1 rfl rfl (by decide) (by omega) (Nat.le_of_ble_eq_true rfl) rfl (Nat.le_refl _) (Nat.le_refl _) (c_Told_officeAt1 hn hR h1 hk hro) (m_go ?_)
  show AW _ _ _ _ _ _ _ _ [.ref o] _ _ _ _
  refine a_astore (lv' := [(4, .ref o), (0, .ref 0), (1, .int (nI k)), (2, .int y), (3, .int u)]) dS_strike_8 (by decide) rfl ?_
  refine a_aload 0 dS_strike_10 rfl ?_
  refine a_ifnull dS_strike_12 ?_
  refine a_iload_n 3 dS_strike_15 rfl rfl ?_
  refine a_if_lt (tgt := 33) dS_strike_16 (by decide) (fun c16 => ?_) (fun c16 => ?_)
  · refine a_ldc2 (v := (-1)) dS_strike_33 cn11_154 ?_
    exact a_lret dS_strike_36 rfl ⟨rfl, KP.refl, (KF.refl hR)⟩
  · refine a_iload_n 3 dS_strike_19 rfl rfl ?_
    refine a_iconstN (a := 3) dS_strike_20 (by decide) ?_
    refine a_icmp_gt (tgt := 33) dS_strike_21 (by decide) (fun c21 => ?_) (fun c21 => ?_)
    · refine a_ldc2 (v := (-1)) dS_strike_33 cn11_154 ?_
      exact a_lret dS_strike_36 rfl ⟨rfl, KP.refl, (KF.refl hR)⟩
    · refine a_iload_n 3 dS_strike_24 rfl rfl ?_
      refine a_aload 0 dS_strike_25 rfl ?_
      refine a_geti dS_strike_27 fl11_229 rfl (of_l0 ho) (by omega) ?_
      rw [show I o 1 = (nI nl) from hl]
      refine a_icmp_le (tgt := 37) dS_strike_30 (by decide) (fun c30 => ?_) (fun c30 => ?_)
      · exfalso
        rcases hy with h | h | h
        · exact c16 h
        · exact c21 h
        · exact absurd c30 (Int32.not_le.mpr h)
      · refine a_ldc2 (v := (-1)) dS_strike_33 cn11_154 ?_
        exact a_lret dS_strike_36 rfl ⟨rfl, KP.refl, (KF.refl hR)⟩
theorem l0_add (a : Nat) : (0 : Int64) + lN a = lN a := Int64.zero_add _
theorem q_S_strike2 {S : Nat × (Nat → Int32)} {d n : Nat} {I : mI} {J : mJ} {R : mR} (hn : 122 ≤ n) (hR : m_fin R) {o nh nl : Nat} (ho : o ∈ m_offs) (hr : offR R o) (hon : o + 8 < n) (hh : I o 0 = nI nh) (hnh : nh ≤ 6) (hl : I o 1 = nI nl) (hnl : nl ≤ 10) (hW : WFc I o nl) (hH : WFh (I (o + 2)) nl) {k : Nat} (h1 : f_of (nI k) (I 3 0) = 1) (hk : k < 2) (hro : R 4 k = some o) {q a b : Nat} (hq : q ≤ nl) (hq3 : q ≤ 3) (hab : (skC I o nh nl q (I 93) (I 94)) = (a, b)) (ha : a < 2 ^ 63) (hb0 : 0 < b) (hb : b < 2 ^ 63) {u : Int32}  : AW S (d + 23) YS_strike n n (qV I R (.long (ptF (lN a) (lN b) u))) 0 [(0, .ref 0), (1, .int (nI k)), (2, .int (nI q)), (3, .int u)] [] I J R n := by
  refine a_aload_n 0 dS_strike_0 rfl rfl ?_
  refine a_geta (r := 1) dS_strike_1 fl11_10 rfl ly_0 (by omega) (rf_0_0 hR) ?_
  refine a_iload_n 1 dS_strike_4 rfl rfl ?_
  refine a_callV (Q' := m_res (some (.ref o)) I J R) (as := [.int (nI k)]) (st := []) dS_strike_5 ml11_101 rfl (Nat.le_of_ble_eq_true rfl) ly_1 rfl rfl (by decide) (by omega) (Nat.le_of_ble_eq_true rfl) rfl (Nat.le_refl _) (Nat.le_refl _) (c_Told_officeAt1 hn hR h1 hk hro) (m_go ?_)
  show AW _ _ _ _ _ _ _ _ [.ref o] _ _ _ _
  refine a_astore (lv' := [(4, .ref o), (0, .ref 0), (1, .int (nI k)), (2, .int (nI q)), (3, .int u)]) dS_strike_8 (by decide) rfl ?_
  refine a_aload 0 dS_strike_10 rfl ?_
  refine a_ifnull dS_strike_12 ?_
  refine a_iload_n 3 dS_strike_15 rfl rfl ?_
  refine a_if_lt (tgt := 33) dS_strike_16 (by decide) (fun c => False.elim (nI_pos (by omega) c)) (fun _ => ?_)
  refine a_iload_n 3 dS_strike_19 rfl rfl ?_
  refine a_iconstN (a := 3) dS_strike_20 (by decide) ?_
  refine a_icmp_gtN (tgt := 33) dS_strike_21 (by decide) (by omega) (by omega) (fun c => False.elim (by omega)) (fun _ => ?_)
  refine a_iload_n 3 dS_strike_24 rfl rfl ?_
  refine a_aload 0 dS_strike_25 rfl ?_
  refine a_geti dS_strike_27 fl11_229 rfl (of_l0 ho) (by omega) ?_
  rw [show I o 1 = (nI nl) from hl]
  refine a_icmp_leN (tgt := 37) dS_strike_30 (by decide) (by omega) (by omega) (fun _ => ?_) (fun c => False.elim (by omega))
  refine a_aload_n 1 dS_strike_37 rfl rfl ?_
  refine a_geta (r := 92) dS_strike_38 fl11_65 rfl ly_0 (by omega) (rf_0_8 (hR)) ?_
  refine a_aload 0 dS_strike_41 rfl ?_
  refine a_iload_n 3 dS_strike_43 rfl rfl ?_
  refine a_callV (Q' := m_res none (m_row (m_row I 93 (m_fill (fun _ => 0) (I 93) 6)) 94 (m_fill (fun _ => -1) (I 94) 6)) (chJ J (lN a) (lN b)) (m_up R 92 2 (some o))) (as := [.ref o, .int (nI q)]) (st := []) dS_strike_44 ml11_250 rfl (Nat.le_of_ble_eq_true rfl) ly_92 rfl rfl (by decide) (by omega) (Nat.le_of_ble_eq_true rfl) rfl (Nat.le_refl _) (Nat.le_refl _) (by have h := c_findStrike (S := S) (d := d) (J := J) hn hR ho hr hon hh hnh hl hnl hW hH (q := q) (by omega); rw [hab, l0_add, l0_add] at h; exact h) (m_go ?_)
  show AW _ _ _ _ _ _ _ _ [] _ _ _ _
  refine a_aload_n 1 dS_strike_47 rfl rfl ?_
  refine a_geta (r := 92) dS_strike_48 fl11_65 rfl ly_0 (by omega) (rf_0_8 (fin_92 hR)) ?_
  refine a_iload_n 4 dS_strike_51 rfl rfl ?_
  refine a_callV (Q' := m_res (some (.long (ptF (lN a) (lN b) u))) (m_row (m_row I 93 (m_fill (fun _ => 0) (I 93) 6)) 94 (m_fill (fun _ => -1) (I 94) 6)) (chJ J (lN a) (lN b)) (m_up R 92 2 (some o))) (as := [.int u]) (st := []) dS_strike_52 ml11_151 rfl (Nat.le_of_ble_eq_true rfl) ly_92 rfl rfl (by decide) (by omega) (Nat.le_of_ble_eq_true rfl) rfl (Nat.le_refl _) (Nat.le_refl _) (c_Chances_answer (J := (chJ J (lN a) (lN b))) (q := b) hn (fin_92 hR) (show nA (lN a) < 2 ^ 63 by rw [nA_lN ha]; exact ha) rfl hb0 hb) (m_go ?_)
  show AW _ _ _ _ _ _ _ _ [.long (ptF (lN a) (lN b) u)] _ _ _ _
  exact a_lret dS_strike_55 rfl ⟨rfl, (KP.row (KP.row KP.refl (by omega)) (by omega)), (KF.up92 (KF.refl hR))⟩
theorem q_S_calm0 {S : Nat × (Nat → Int32)} {d n : Nat} {I : mI} {J : mJ} {R : mR} (hn : 122 ≤ n) (hR : m_fin R) {x : Int32} (h0 : f_of x (I 3 0) = 0) {y z u : Int32}  : AW S (d + 4) YS_calm n n (qV I R (.int (-1))) 0 [(0, .ref 0), (1, .int x), (2, .int y), (3, .int z), (4, .int u)] [] I J R n := by
  refine a_aload_n 0 dS_calm_0 rfl rfl ?_
  refine a_geta (r := 1) dS_calm_1 fl11_10 rfl ly_0 (by omega) (rf_0_0 hR) ?_
  refine a_iload_n 1 dS_calm_4 rfl rfl ?_
  refine a_callV (Q' := m_res (some (.null)) I J R) (as := [.int x]) (st := []) dS_calm_5 ml11_101 rfl (Nat.le_of_ble_eq_true rfl) ly_1 rfl rfl (by decide) (by omega) (Nat.le_of_ble_eq_true rfl) rfl (Nat.le_refl _) (Nat.le_refl _) (c_Told_officeAt0 hn hR h0) (m_go ?_)
  show AW _ _ _ _ _ _ _ _ [.null] _ _ _ _
  refine a_astoreN (lv' := [(5, .null), (0, .ref 0), (1, .int x), (2, .int y), (3, .int z), (4, .int u)]) dS_calm_8 (by decide) rfl ?_
  refine a_aloadN 0 dS_calm_10 rfl ?_
  refine a_ifnullN (tgt := 34) dS_calm_12 (by decide) ?_
  refine a_iconst (v := -1) dS_calm_34 (by decide) ?_
  exact a_iret dS_calm_35 rfl ⟨rfl, KP.refl, (KF.refl hR)⟩
theorem q_S_calm1 {S : Nat × (Nat → Int32)} {d n : Nat} {I : mI} {J : mJ} {R : mR} (hn : 122 ≤ n) (hR : m_fin R) {o nh nl : Nat} (ho : o ∈ m_offs) (hr : offR R o) (hon : o + 8 < n) (hh : I o 0 = nI nh) (hnh : nh ≤ 6) (hl : I o 1 = nI nl) (hnl : nl ≤ 10) (hW : WFc I o nl) (hH : WFh (I (o + 2)) nl) {k : Nat} (h1 : f_of (nI k) (I 3 0) = 1) (hk : k < 2) (hro : R 4 k = some o) {y : Int32} (hy : f_of y (nI nh) = 0) {z u : Int32}  : AW S (d + 4) YS_calm n n (qV I R (.int (-1))) 0 [(0, .ref 0), (1, .int (nI k)), (2, .int y), (3, .int z), (4, .int u)] [] I J R n := by
  refine a_aload_n 0 dS_calm_0 rfl rfl ?_
  refine a_geta (r := 1) dS_calm_1 fl11_10 rfl ly_0 (by omega) (rf_0_0 hR) ?_
  refine a_iload_n 1 dS_calm_4 rfl rfl ?_
  refine a_callV (Q' := m_res (some (.ref o)) I J R) (as := [.int (nI k)]) (st := []) dS_calm_5 ml11_101 rfl (Nat.le_of_ble_eq_true rfl) ly_1 rfl rfl (by decide) (by omega) (Nat.le_of_ble_eq_true rfl) rfl (Nat.le_refl _) (Nat.le_refl _) (c_Told_officeAt1 hn hR h1 hk hro) (m_go ?_)
  show AW _ _ _ _ _ _ _ _ [.ref o] _ _ _ _
  refine a_astore (lv' := [(5, .ref o), (0, .ref 0), (1, .int (nI k)), (2, .int y), (3, .int z), (4, .int u)]) dS_calm_8 (by decide) rfl ?_
  refine a_aload 0 dS_calm_10 rfl ?_
  refine a_ifnull dS_calm_12 ?_
  refine a_aload 0 dS_calm_15 rfl ?_
  refine a_iload_n 3 dS_calm_17 rfl rfl ?_
  refine a_callV (Q' := m_res (some (.int (f_of y (nI nh)))) I J R) (as := [.int y]) (st := []) dS_calm_18 ml11_135 rfl (Nat.le_of_ble_eq_true rfl) (of_l0 ho) rfl rfl (by decide) (by omega) (Nat.le_of_ble_eq_true rfl) rfl (Nat.le_refl _) (Nat.le_refl _) (by have h := c_Office_hasHouse (S := S) (d := d + 3) (n := n) (J := J) (R := R) (I := I) (h := y) ho hr hon; rw [hh] at h; exact h) (m_go ?_)
  show AW _ _ _ _ _ _ _ _ [.int (f_of y (nI nh))] _ _ _ _
  refine a_if_eq (tgt := 34) dS_calm_21 (by decide) (fun _ => ?_) (fun c => False.elim (c hy))
  refine a_iconst (v := -1) dS_calm_34 (by decide) ?_
  exact a_iret dS_calm_35 rfl ⟨rfl, KP.refl, (KF.refl hR)⟩
theorem q_S_calm2 {S : Nat × (Nat → Int32)} {d n : Nat} {I : mI} {J : mJ} {R : mR} (hn : 122 ≤ n) (hR : m_fin R) {o nh nl : Nat} (ho : o ∈ m_offs) (hr : offR R o) (hon : o + 8 < n) (hh : I o 0 = nI nh) (hnh : nh ≤ 6) (hl : I o 1 = nI nl) (hnl : nl ≤ 10) (hW : WFc I o nl) (hH : WFh (I (o + 2)) nl) {k : Nat} (h1 : f_of (nI k) (I 3 0) = 1) (hk : k < 2) (hro : R 4 k = some o) {h : Nat} (hh6 : h < nh) {z u : Int32} (hz : z < 0 ∨ nI 99 < z)  : AW S (d + 4) YS_calm n n (qV I R (.int (-1))) 0 [(0, .ref 0), (1, .int (nI k)), (2, .int (nI h)), (3, .int z), (4, .int u)] [] I J R n := by
  refine a_aload_n 0 dS_calm_0 rfl rfl ?_
  refine a_geta (r := 1) dS_calm_1 fl11_10 rfl ly_0 (by omega) (rf_0_0 hR) ?_
  refine a_iload_n 1 dS_calm_4 rfl rfl ?_
  refine a_callV (Q' := m_res (some (.ref o)) I J R) (as := [.int (nI k)]) (st := []) dS_calm_5 ml11_101 rfl (Nat.le_of_ble_eq_true rfl) ly_1 rfl rfl (by decide) (by omega) (Nat.le_of_ble_eq_true rfl) rfl (Nat.le_refl _) (Nat.le_refl _) (c_Told_officeAt1 hn hR h1 hk hro) (m_go ?_)
  show AW _ _ _ _ _ _ _ _ [.ref o] _ _ _ _
  refine a_astore (lv' := [(5, .ref o), (0, .ref 0), (1, .int (nI k)), (2, .int (nI h)), (3, .int z), (4, .int u)]) dS_calm_8 (by decide) rfl ?_
  refine a_aload 0 dS_calm_10 rfl ?_
  refine a_ifnull dS_calm_12 ?_
  refine a_aload 0 dS_calm_15 rfl ?_
  refine a_iload_n 3 dS_calm_17 rfl rfl ?_
  refine a_callV (Q' := m_res (some (.int (f_of (nI h) (nI nh)))) I J R) (as := [.int (nI h)]) (st := []) dS_calm_18 ml11_135 rfl (Nat.le_of_ble_eq_true rfl) (of_l0 ho) rfl rfl (by decide) (by omega) (Nat.le_of_ble_eq_true rfl) rfl (Nat.le_refl _) (Nat.le_refl _) (by have h := c_Office_hasHouse (S := S) (d := d + 3) (n := n) (J := J) (R := R) (I := I) (h := (nI h)) ho hr hon; rw [hh] at h; exact h) (m_go ?_)
  show AW _ _ _ _ _ _ _ _ [.int (f_of (nI h) (nI nh))] _ _ _ _
  refine a_if_eq (tgt := 34) dS_calm_21 (by decide) (fun c => False.elim (absurd c (by rw [f_of_n (by omega) hh6]; decide))) (fun _ => ?_)
  refine a_iload_n 4 dS_calm_24 rfl rfl ?_
  refine a_if_lt (tgt := 34) dS_calm_25 (by decide) (fun c25 => ?_) (fun c25 => ?_)
  · refine a_iconst (v := -1) dS_calm_34 (by decide) ?_
    exact a_iret dS_calm_35 rfl ⟨rfl, KP.refl, (KF.refl hR)⟩
  · refine a_iload_n 4 dS_calm_28 rfl rfl ?_
    refine a_bipushN (a := 99) dS_calm_29 (by decide) ?_
    refine a_icmp_le (tgt := 36) dS_calm_31 (by decide) (fun c31 => ?_) (fun c31 => ?_)
    · exfalso
      rcases hz with h | h
      · exact c25 h
      · exact absurd c31 (Int32.not_le.mpr h)
    · refine a_iconst (v := -1) dS_calm_34 (by decide) ?_
      exact a_iret dS_calm_35 rfl ⟨rfl, KP.refl, (KF.refl hR)⟩
def clS (u c : Int32) : Int32 := if u = 0 then (if c = -1 then c else bcF c) else c
theorem q_S_calm3 {S : Nat × (Nat → Int32)} {d n : Nat} {I : mI} {J : mJ} {R : mR} (hn : 122 ≤ n) (hR : m_fin R) {o nh nl : Nat} (ho : o ∈ m_offs) (hr : offR R o) (hon : o + 8 < n) (hh : I o 0 = nI nh) (hnh : nh ≤ 6) (hl : I o 1 = nI nl) (hnl : nl ≤ 10) (hW : WFc I o nl) (hH : WFh (I (o + 2)) nl) {k : Nat} (h1 : f_of (nI k) (I 3 0) = 1) (hk : k < 2) (hro : R 4 k = some o) {h : Nat} (hh6 : h < nh) {m : Nat} (hm : m ≤ 99) {u : Int32}  : AW S (d + 4) YS_calm n n (qV I R (.int (clS u (caC I o nl h (nI m))))) 0 [(0, .ref 0), (1, .int (nI k)), (2, .int (nI h)), (3, .int (nI m)), (4, .int u)] [] I J R n := by
  refine a_aload_n 0 dS_calm_0 rfl rfl ?_
  refine a_geta (r := 1) dS_calm_1 fl11_10 rfl ly_0 (by omega) (rf_0_0 hR) ?_
  refine a_iload_n 1 dS_calm_4 rfl rfl ?_
  refine a_callV (Q' := m_res (some (.ref o)) I J R) (as := [.int (nI k)]) (st := []) dS_calm_5 ml11_101 rfl (Nat.le_of_ble_eq_true rfl) ly_1 rfl rfl (by decide) (by omega) (Nat.le_of_ble_eq_true rfl) rfl (Nat.le_refl _) (Nat.le_refl _) (c_Told_officeAt1 hn hR h1 hk hro) (m_go ?_)
  show AW _ _ _ _ _ _ _ _ [.ref o] _ _ _ _
  refine a_astore (lv' := [(5, .ref o), (0, .ref 0), (1, .int (nI k)), (2, .int (nI h)), (3, .int (nI m)), (4, .int u)]) dS_calm_8 (by decide) rfl ?_
  refine a_aload 0 dS_calm_10 rfl ?_
  refine a_ifnull dS_calm_12 ?_
  refine a_aload 0 dS_calm_15 rfl ?_
  refine a_iload_n 3 dS_calm_17 rfl rfl ?_
  refine a_callV (Q' := m_res (some (.int (f_of (nI h) (nI nh)))) I J R) (as := [.int (nI h)]) (st := []) dS_calm_18 ml11_135 rfl (Nat.le_of_ble_eq_true rfl) (of_l0 ho) rfl rfl (by decide) (by omega) (Nat.le_of_ble_eq_true rfl) rfl (Nat.le_refl _) (Nat.le_refl _) (by have h := c_Office_hasHouse (S := S) (d := d + 3) (n := n) (J := J) (R := R) (I := I) (h := (nI h)) ho hr hon; rw [hh] at h; exact h) (m_go ?_)
  show AW _ _ _ _ _ _ _ _ [.int (f_of (nI h) (nI nh))] _ _ _ _
  refine a_if_eq (tgt := 34) dS_calm_21 (by decide) (fun c => False.elim (absurd c (by rw [f_of_n (by omega) hh6]; decide))) (fun _ => ?_)
  refine a_iload_n 4 dS_calm_24 rfl rfl ?_
  refine a_if_lt (tgt := 34) dS_calm_25 (by decide) (fun c => False.elim (nI_pos (by omega) c)) (fun _ => ?_)
  refine a_iload_n 4 dS_calm_28 rfl rfl ?_
  refine a_bipushN (a := 99) dS_calm_29 (by decide) ?_
  refine a_icmp_leN (tgt := 36) dS_calm_31 (by decide) (by omega) (by omega) (fun _ => ?_) (fun c => False.elim (by omega))
  refine a_aload 0 dS_calm_36 rfl ?_
  refine a_iload_n 3 dS_calm_38 rfl rfl ?_
  refine a_iload_n 4 dS_calm_39 rfl rfl ?_
  refine a_callV (Q' := m_res (some (.int (caC I o nl h (nI m)))) I J R) (as := [.int (nI h), .int (nI m)]) (st := []) dS_calm_40 ml11_221 rfl (Nat.le_of_ble_eq_true rfl) (of_l0 ho) rfl rfl (by decide) (by omega) (Nat.le_of_ble_eq_true rfl) rfl (Nat.le_refl _) (Nat.le_refl _) (c_Office_calmedBy hn hR ho hr hon hh hnh hl hnl hW hH hh6) (m_go ?_)
  show AW _ _ _ _ _ _ _ _ [.int (caC I o nl h (nI m))] _ _ _ _
  refine a_istore (lv' := [(6, .int (caC I o nl h (nI m))), (5, .ref o), (0, .ref 0), (1, .int (nI k)), (2, .int (nI h)), (3, .int (nI m)), (4, .int u)]) dS_calm_43 (by decide) rfl ?_
  refine a_iload 6 dS_calm_45 rfl ?_
  refine a_if_ne (tgt := 56) dS_calm_47 (by decide) (fun c47 => ?_) (fun c47 => ?_)
  · refine a_iload 0 dS_calm_56 rfl ?_
    refine a_goto (tgt := 66) dS_calm_58 (by decide) ?_
    exact a_iret dS_calm_66 rfl ⟨(by unfold clS; rw [if_neg c47]), KP.refl, (KF.refl hR)⟩
  · refine a_iload 0 dS_calm_50 rfl ?_
    refine a_iconst (v := -1) dS_calm_52 (by decide) ?_
    refine a_icmp_ne (tgt := 61) dS_calm_53 (by decide) (fun c53 => ?_) (fun c53 => ?_)
    · refine a_iload 0 dS_calm_61 rfl ?_
      refine a_callS (Q' := m_res (some (.int (bcF (caC I o nl h (nI m))))) I J R) (as := [.int (caC I o nl h (nI m))]) (st := []) dS_calm_63 ml11_224 rfl (Nat.le_of_ble_eq_true rfl) (Nat.le_of_ble_eq_true rfl) rfl (Nat.le_refl _) (Nat.le_refl _) c_Integer_bitCount (m_go ?_)
      show AW _ _ _ _ _ _ _ _ [.int (bcF (caC I o nl h (nI m)))] _ _ _ _
      exact a_iret dS_calm_66 rfl ⟨(by unfold clS; rw [if_pos c47, if_neg c53]), KP.refl, (KF.refl hR)⟩
    · refine a_iload 0 dS_calm_56 rfl ?_
      refine a_goto (tgt := 66) dS_calm_58 (by decide) ?_
      exact a_iret dS_calm_66 rfl ⟨(by unfold clS; rw [if_pos c47, if_pos c53]), KP.refl, (KF.refl hR)⟩
