/-- rows copied: L says which (row, from, to) -/
def cpH (L : List (Nat × Nat × Nat)) (q j : Nat) : Bool := L.any (fun e => e.1 == q && (decide (e.2.1 ≤ j) && decide (j < e.2.2)))
def cpB (I : mI) (p o : Nat) (L : List (Nat × Nat × Nat)) : mI := fun i j => if o ≤ i ∧ cpH L (i - o) j = true then I (p + (i - o)) j else I i j
def cpW (L : List (Nat × Nat × Nat)) (w : Nat) : Prop := ∀ e ∈ L, e.1 < w
section CpB
variable {I : mI} {p o q j w k N s a b : Nat} {L L' : List (Nat × Nat × Nat)}
theorem cpH_w (h : cpW L w) (hq : w ≤ q) : cpH L q j = false := by
  unfold cpH
  rw [List.any_eq_false]
  intro e he
  have := h e he
  have e1 : (e.1 == q) = false := by simp; omega
  simp [e1]
theorem cpH_cons : cpH ((s, a, b) :: L) q j = ((s == q && (decide (a ≤ j) && decide (j < b))) || cpH L q j) := rfl
theorem cpB_nil : cpB I p o [] = I := by
  funext i j
  unfold cpB
  rw [if_neg (fun h => by cases h.2)]
theorem cpB_src (hL : cpW L w) (hd : o + w ≤ p ∨ p + w ≤ o) (hq : q < w) : cpB I p o L (p + q) = I (p + q) := by
  funext j
  unfold cpB
  rw [if_neg]
  intro ⟨h1, h2⟩
  rw [cpH_w hL (show w ≤ p + q - o by omega)] at h2
  cases h2
theorem cpB_gen {f : Nat → Int32} (hf : ∀ j, f j = if a ≤ j ∧ j < b then I (p + q) j else cpB I p o L (o + q) j) : m_row (cpB I p o L) (o + q) f = cpB I p o ((q, a, b) :: L) := by
  funext i j
  by_cases hi : i = o + q
  · subst hi
    rw [m_row_eq, hf]
    unfold cpB
    rw [show o + q - o = q by omega]
    by_cases hj : a ≤ j ∧ j < b
    · rw [if_pos hj, if_pos ⟨by omega, by rw [cpH_cons]; simp [hj.1, hj.2]⟩]
    · rw [if_neg hj]
      have e : cpH ((q, a, b) :: L) q j = cpH L q j := by
        rw [cpH_cons]
        have : (decide (a ≤ j) && decide (j < b)) = false := by
          rw [Bool.and_eq_false_iff]
          by_cases h1 : a ≤ j
          · right; simp; omega
          · left; simp; omega
        rw [this]; simp
      rw [e]
  · rw [m_row_ne hi]
    unfold cpB
    by_cases ho : o ≤ i
    · have e : cpH ((q, a, b) :: L) (i - o) j = cpH L (i - o) j := by
        rw [cpH_cons]
        have : (q == i - o) = false := by simp; omega
        rw [this]; simp
      rw [e]
    · rw [if_neg (fun h => ho h.1), if_neg (fun h => ho h.1)]
theorem cpB_up : m_up (cpB I p o L) (o + q) k (I (p + q) k) = cpB I p o ((q, k, k + 1) :: L) := by
  rw [m_up_row]
  apply cpB_gen
  intro j
  unfold va_up
  by_cases h : j = k
  · subst h; rw [if_pos rfl, if_pos ⟨Nat.le_refl _, Nat.lt_succ_self _⟩]
  · rw [if_neg h, if_neg (by omega)]
theorem cpB_row : m_row (cpB I p o L) (o + q) (va_cpy (I (p + q)) (cpB I p o L (o + q)) 0 0 N) = cpB I p o ((q, 0, N) :: L) := by
  apply cpB_gen
  intro j
  by_cases h : j < N
  · rw [if_pos ⟨by omega, h⟩, pk_cpy_in (by omega) (by omega)]; congr 1; omega
  · rw [if_neg (by omega), pk_cpy_out (by omega)]
theorem cpB_up0 : m_up (cpB I p o L) o k (I p k) = cpB I p o ((0, k, k + 1) :: L) := cpB_up (q := 0)
theorem cpH_app : cpH (L' ++ L) q j = (cpH L' q j || cpH L q j) := by unfold cpH; rw [List.any_append]
theorem cpH_sh : cpH (L.map (fun e => (e.1 + s, e.2))) q j = (decide (s ≤ q) && cpH L (q - s) j) := by
  induction L with
  | nil => simp [cpH]
  | cons e L ih =>
    obtain ⟨x, y, z⟩ := e
    show cpH ((x + s, y, z) :: L.map (fun e => (e.1 + s, e.2))) q j = _
    rw [cpH_cons, cpH_cons, ih]
    by_cases h : s ≤ q
    · have e2 : (x + s == q) = (x == q - s) := Bool.eq_iff_iff.mpr (by simp only [beq_iff_eq]; omega)
      rw [e2]; simp [h]
    · have e2 : (x + s == q) = false := by simp; omega
      rw [e2]; simp [h]
theorem cpB_cpB {u t w' : Nat} (hL : cpW L w) (hL' : cpW L' w') (hd : t + w ≤ u ∨ u + w ≤ t) (hs : s + w' ≤ w) : cpB (cpB I u t L) (u + s) (t + s) L' = cpB I u t (L'.map (fun e => (e.1 + s, e.2)) ++ L) := by
  funext i j
  by_cases h : t + s ≤ i ∧ cpH L' (i - (t + s)) j = true
  · have hw : i - (t + s) < w' := by
      apply Nat.lt_of_not_le
      intro hc
      rw [cpH_w hL' hc] at h
      exact absurd h.2 (by decide)
    have e1 : cpB (cpB I u t L) (u + s) (t + s) L' i j = cpB I u t L (u + s + (i - (t + s))) j := by
      show (if t + s ≤ i ∧ cpH L' (i - (t + s)) j = true then _ else _) = _
      rw [if_pos h]
    rw [e1, show u + s + (i - (t + s)) = u + (s + (i - (t + s))) by omega, cpB_src hL hd (by omega)]
    unfold cpB
    rw [if_pos ⟨by omega, by rw [cpH_app, cpH_sh, show i - t - s = i - (t + s) by omega, h.2]; simp; left; omega⟩]
    congr 1; omega
  · have e1 : cpB (cpB I u t L) (u + s) (t + s) L' i j = cpB I u t L i j := by
      show (if t + s ≤ i ∧ cpH L' (i - (t + s)) j = true then _ else _) = _
      rw [if_neg h]
    rw [e1]
    unfold cpB
    by_cases hi : t ≤ i
    · have e2 : cpH (L'.map (fun e => (e.1 + s, e.2)) ++ L) (i - t) j = cpH L (i - t) j := by
        rw [cpH_app, cpH_sh]
        by_cases hs2 : s ≤ i - t
        · have : cpH L' (i - t - s) j = false := by
            rw [show i - t - s = i - (t + s) by omega]
            cases hc : cpH L' (i - (t + s)) j with
            | false => rfl
            | true => exact absurd ⟨by omega, hc⟩ h
          rw [this]; simp
        · simp [hs2]
      rw [e2]
    · rw [if_neg (fun h => hi h.1), if_neg (fun h => hi h.1)]
end CpB
abbrev cplOffice : List (Nat × Nat × Nat) := [(8, 0, 16), (7, 0, 10), (6, 0, 10), (5, 0, 10), (4, 0, 10), (3, 0, 10), (2, 0, 10), (1, 0, 6), (0, 2, 3), (0, 1, 2), (0, 0, 1)]
theorem c_Office_copyFrom {S : Nat × (Nat → Int32)} {d n : Nat} {I : mI} {J : mJ} {R : mR} {o p : Nat} (ho : o ∈ m_offs) (hr : offR R o) (hon : o + 8 < n) (hp : p ∈ m_offs) (hrp : offR R p) (hpn : p + 8 < n)  (hd : o + 9 ≤ p ∨ p + 9 ≤ o) : RUN S (d + 1) YOffice_copyFrom [.ref o, .ref p] I J R n none (cpB I p o cplOffice) J R n := by
  have e0 : I = cpB I p o [] := cpB_nil.symm
  show AW S _ YOffice_copyFrom n n _ 0 [(0, .ref o), (1, .ref p)] [] I J R n
  rw [show (AW S (d + 1) YOffice_copyFrom n n (m_res none (cpB I p o cplOffice) J R) 0 [(0, .ref o), (1, .ref p)] [] I J R n) = (AW S (d + 1) YOffice_copyFrom n n (m_res none (cpB I p o cplOffice) J R) 0 [(0, .ref o), (1, .ref p)] [] (cpB I p o []) J R n) by rw [cpB_nil]]
  refine a_aload_n 0 dOffice_copyFrom_0 rfl rfl ?_
  refine a_aload_n 1 dOffice_copyFrom_1 rfl rfl ?_
  refine a_geti dOffice_copyFrom_2 fl4_36 rfl (of_l0 hp) (by omega) ?_
  rw [show (cpB I p o []) p 0 = I p 0 from (by rw [show cpB I p o [] p = I p from cpB_src (w := 9) (q := 0) (by unfold cpW; decide) hd (by decide)])]
  refine a_puti dOffice_copyFrom_5 fl4_36 rfl (of_l0 ho) (by omega) ?_
  rw [cpB_up0]
  refine a_aload_n 0 dOffice_copyFrom_8 rfl rfl ?_
  refine a_aload_n 1 dOffice_copyFrom_9 rfl rfl ?_
  refine a_geti dOffice_copyFrom_10 fl4_40 rfl (of_l0 hp) (by omega) ?_
  rw [show (cpB I p o [(0, 0, 1)]) p 1 = I p 1 from (by rw [show cpB I p o [(0, 0, 1)] p = I p from cpB_src (w := 9) (q := 0) (by unfold cpW; decide) hd (by decide)])]
  refine a_puti dOffice_copyFrom_13 fl4_40 rfl (of_l0 ho) (by omega) ?_
  rw [cpB_up0]
  refine a_aload_n 0 dOffice_copyFrom_16 rfl rfl ?_
  refine a_aload_n 1 dOffice_copyFrom_17 rfl rfl ?_
  refine a_geti dOffice_copyFrom_18 fl4_43 rfl (of_l0 hp) (by omega) ?_
  rw [show (cpB I p o [(0, 1, 2), (0, 0, 1)]) p 2 = I p 2 from (by rw [show cpB I p o [(0, 1, 2), (0, 0, 1)] p = I p from cpB_src (w := 9) (q := 0) (by unfold cpW; decide) hd (by decide)])]
  refine a_puti dOffice_copyFrom_21 fl4_43 rfl (of_l0 ho) (by omega) ?_
  rw [cpB_up0]
  refine a_aload_n 1 dOffice_copyFrom_24 rfl rfl ?_
  refine a_geta (r := (p + 1)) dOffice_copyFrom_25 fl4_9 rfl (of_l0 hp) (by omega) (hrp 0 (by decide)) ?_
  refine a_iconstN (a := 0) dOffice_copyFrom_28 (by decide) ?_
  refine a_aload_n 0 dOffice_copyFrom_29 rfl rfl ?_
  refine a_geta (r := (o + 1)) dOffice_copyFrom_30 fl4_9 rfl (of_l0 ho) (by omega) (hr 0 (by decide)) ?_
  refine a_iconstN (a := 0) dOffice_copyFrom_33 (by decide) ?_
  refine a_bipushN (a := 6) dOffice_copyFrom_34 (by decide) ?_
  refine a_copy dOffice_copyFrom_36 (m_in (i := 703) (by decide +kernel) rfl) (of_l1 hp) (of_l1 ho) (by decide) (by omega) (by omega) (by decide) (by decide) (by decide) (by decide) (by decide) (Nat.le_of_ble_eq_true rfl) ?_
  rw [show (nI 0).toNatClampNeg = 0 from rfl, show (nI 6).toNatClampNeg = 6 from rfl, show cpB I p o [(0, 2, 3), (0, 1, 2), (0, 0, 1)] (p + 1) = I (p + 1) from cpB_src (w := 9) (by unfold cpW; decide) hd (by decide), cpB_row]
  refine a_aload_n 1 dOffice_copyFrom_39 rfl rfl ?_
  refine a_geta (r := (p + 2)) dOffice_copyFrom_40 fl4_15 rfl (of_l0 hp) (by omega) (hrp 1 (by decide)) ?_
  refine a_iconstN (a := 0) dOffice_copyFrom_43 (by decide) ?_
  refine a_aload_n 0 dOffice_copyFrom_44 rfl rfl ?_
  refine a_geta (r := (o + 2)) dOffice_copyFrom_45 fl4_15 rfl (of_l0 ho) (by omega) (hr 1 (by decide)) ?_
  refine a_iconstN (a := 0) dOffice_copyFrom_48 (by decide) ?_
  refine a_bipushN (a := 10) dOffice_copyFrom_49 (by decide) ?_
  refine a_copy dOffice_copyFrom_51 (m_in (i := 703) (by decide +kernel) rfl) (of_l2 hp) (of_l2 ho) (by decide) (by omega) (by omega) (by decide) (by decide) (by decide) (by decide) (by decide) (Nat.le_of_ble_eq_true rfl) ?_
  rw [show (nI 0).toNatClampNeg = 0 from rfl, show (nI 10).toNatClampNeg = 10 from rfl, show cpB I p o [(1, 0, 6), (0, 2, 3), (0, 1, 2), (0, 0, 1)] (p + 2) = I (p + 2) from cpB_src (w := 9) (by unfold cpW; decide) hd (by decide), cpB_row]
  refine a_aload_n 1 dOffice_copyFrom_54 rfl rfl ?_
  refine a_geta (r := (p + 3)) dOffice_copyFrom_55 fl4_18 rfl (of_l0 hp) (by omega) (hrp 2 (by decide)) ?_
  refine a_iconstN (a := 0) dOffice_copyFrom_58 (by decide) ?_
  refine a_aload_n 0 dOffice_copyFrom_59 rfl rfl ?_
  refine a_geta (r := (o + 3)) dOffice_copyFrom_60 fl4_18 rfl (of_l0 ho) (by omega) (hr 2 (by decide)) ?_
  refine a_iconstN (a := 0) dOffice_copyFrom_63 (by decide) ?_
  refine a_bipushN (a := 10) dOffice_copyFrom_64 (by decide) ?_
  refine a_copy dOffice_copyFrom_66 (m_in (i := 703) (by decide +kernel) rfl) (of_l3 hp) (of_l3 ho) (by decide) (by omega) (by omega) (by decide) (by decide) (by decide) (by decide) (by decide) (Nat.le_of_ble_eq_true rfl) ?_
  rw [show (nI 0).toNatClampNeg = 0 from rfl, show (nI 10).toNatClampNeg = 10 from rfl, show cpB I p o [(2, 0, 10), (1, 0, 6), (0, 2, 3), (0, 1, 2), (0, 0, 1)] (p + 3) = I (p + 3) from cpB_src (w := 9) (by unfold cpW; decide) hd (by decide), cpB_row]
  refine a_aload_n 1 dOffice_copyFrom_69 rfl rfl ?_
  refine a_geta (r := (p + 4)) dOffice_copyFrom_70 fl4_21 rfl (of_l0 hp) (by omega) (hrp 3 (by decide)) ?_
  refine a_iconstN (a := 0) dOffice_copyFrom_73 (by decide) ?_
  refine a_aload_n 0 dOffice_copyFrom_74 rfl rfl ?_
  refine a_geta (r := (o + 4)) dOffice_copyFrom_75 fl4_21 rfl (of_l0 ho) (by omega) (hr 3 (by decide)) ?_
  refine a_iconstN (a := 0) dOffice_copyFrom_78 (by decide) ?_
  refine a_bipushN (a := 10) dOffice_copyFrom_79 (by decide) ?_
  refine a_copy dOffice_copyFrom_81 (m_in (i := 703) (by decide +kernel) rfl) (of_l4 hp) (of_l4 ho) (by decide) (by omega) (by omega) (by decide) (by decide) (by decide) (by decide) (by decide) (Nat.le_of_ble_eq_true rfl) ?_
  rw [show (nI 0).toNatClampNeg = 0 from rfl, show (nI 10).toNatClampNeg = 10 from rfl, show cpB I p o [(3, 0, 10), (2, 0, 10), (1, 0, 6), (0, 2, 3), (0, 1, 2), (0, 0, 1)] (p + 4) = I (p + 4) from cpB_src (w := 9) (by unfold cpW; decide) hd (by decide), cpB_row]
  refine a_aload_n 1 dOffice_copyFrom_84 rfl rfl ?_
  refine a_geta (r := (p + 5)) dOffice_copyFrom_85 fl4_24 rfl (of_l0 hp) (by omega) (hrp 4 (by decide)) ?_
  refine a_iconstN (a := 0) dOffice_copyFrom_88 (by decide) ?_
  refine a_aload_n 0 dOffice_copyFrom_89 rfl rfl ?_
  refine a_geta (r := (o + 5)) dOffice_copyFrom_90 fl4_24 rfl (of_l0 ho) (by omega) (hr 4 (by decide)) ?_
  refine a_iconstN (a := 0) dOffice_copyFrom_93 (by decide) ?_
  refine a_bipushN (a := 10) dOffice_copyFrom_94 (by decide) ?_
  refine a_copy dOffice_copyFrom_96 (m_in (i := 703) (by decide +kernel) rfl) (of_l5 hp) (of_l5 ho) (by decide) (by omega) (by omega) (by decide) (by decide) (by decide) (by decide) (by decide) (Nat.le_of_ble_eq_true rfl) ?_
  rw [show (nI 0).toNatClampNeg = 0 from rfl, show (nI 10).toNatClampNeg = 10 from rfl, show cpB I p o [(4, 0, 10), (3, 0, 10), (2, 0, 10), (1, 0, 6), (0, 2, 3), (0, 1, 2), (0, 0, 1)] (p + 5) = I (p + 5) from cpB_src (w := 9) (by unfold cpW; decide) hd (by decide), cpB_row]
  refine a_aload_n 1 dOffice_copyFrom_99 rfl rfl ?_
  refine a_geta (r := (p + 6)) dOffice_copyFrom_100 fl4_27 rfl (of_l0 hp) (by omega) (hrp 5 (by decide)) ?_
  refine a_iconstN (a := 0) dOffice_copyFrom_103 (by decide) ?_
  refine a_aload_n 0 dOffice_copyFrom_104 rfl rfl ?_
  refine a_geta (r := (o + 6)) dOffice_copyFrom_105 fl4_27 rfl (of_l0 ho) (by omega) (hr 5 (by decide)) ?_
  refine a_iconstN (a := 0) dOffice_copyFrom_108 (by decide) ?_
  refine a_bipushN (a := 10) dOffice_copyFrom_109 (by decide) ?_
  refine a_copy dOffice_copyFrom_111 (m_in (i := 703) (by decide +kernel) rfl) (of_l6 hp) (of_l6 ho) (by decide) (by omega) (by omega) (by decide) (by decide) (by decide) (by decide) (by decide) (Nat.le_of_ble_eq_true rfl) ?_
  rw [show (nI 0).toNatClampNeg = 0 from rfl, show (nI 10).toNatClampNeg = 10 from rfl, show cpB I p o [(5, 0, 10), (4, 0, 10), (3, 0, 10), (2, 0, 10), (1, 0, 6), (0, 2, 3), (0, 1, 2), (0, 0, 1)] (p + 6) = I (p + 6) from cpB_src (w := 9) (by unfold cpW; decide) hd (by decide), cpB_row]
  refine a_aload_n 1 dOffice_copyFrom_114 rfl rfl ?_
  refine a_geta (r := (p + 7)) dOffice_copyFrom_115 fl4_30 rfl (of_l0 hp) (by omega) (hrp 6 (by decide)) ?_
  refine a_iconstN (a := 0) dOffice_copyFrom_118 (by decide) ?_
  refine a_aload_n 0 dOffice_copyFrom_119 rfl rfl ?_
  refine a_geta (r := (o + 7)) dOffice_copyFrom_120 fl4_30 rfl (of_l0 ho) (by omega) (hr 6 (by decide)) ?_
  refine a_iconstN (a := 0) dOffice_copyFrom_123 (by decide) ?_
  refine a_bipushN (a := 10) dOffice_copyFrom_124 (by decide) ?_
  refine a_copy dOffice_copyFrom_126 (m_in (i := 703) (by decide +kernel) rfl) (of_l7 hp) (of_l7 ho) (by decide) (by omega) (by omega) (by decide) (by decide) (by decide) (by decide) (by decide) (Nat.le_of_ble_eq_true rfl) ?_
  rw [show (nI 0).toNatClampNeg = 0 from rfl, show (nI 10).toNatClampNeg = 10 from rfl, show cpB I p o [(6, 0, 10), (5, 0, 10), (4, 0, 10), (3, 0, 10), (2, 0, 10), (1, 0, 6), (0, 2, 3), (0, 1, 2), (0, 0, 1)] (p + 7) = I (p + 7) from cpB_src (w := 9) (by unfold cpW; decide) hd (by decide), cpB_row]
  refine a_aload_n 1 dOffice_copyFrom_129 rfl rfl ?_
  refine a_geta (r := (p + 8)) dOffice_copyFrom_130 fl4_33 rfl (of_l0 hp) (by omega) (hrp 7 (by decide)) ?_
  refine a_iconstN (a := 0) dOffice_copyFrom_133 (by decide) ?_
  refine a_aload_n 0 dOffice_copyFrom_134 rfl rfl ?_
  refine a_geta (r := (o + 8)) dOffice_copyFrom_135 fl4_33 rfl (of_l0 ho) (by omega) (hr 7 (by decide)) ?_
  refine a_iconstN (a := 0) dOffice_copyFrom_138 (by decide) ?_
  refine a_bipushN (a := 16) dOffice_copyFrom_139 (by decide) ?_
  refine a_copy dOffice_copyFrom_141 (m_in (i := 703) (by decide +kernel) rfl) (of_l8 hp) (of_l8 ho) (by decide) (by omega) (by omega) (by decide) (by decide) (by decide) (by decide) (by decide) (Nat.le_of_ble_eq_true rfl) ?_
  rw [show (nI 0).toNatClampNeg = 0 from rfl, show (nI 16).toNatClampNeg = 16 from rfl, show cpB I p o [(7, 0, 10), (6, 0, 10), (5, 0, 10), (4, 0, 10), (3, 0, 10), (2, 0, 10), (1, 0, 6), (0, 2, 3), (0, 1, 2), (0, 0, 1)] (p + 8) = I (p + 8) from cpB_src (w := 9) (by unfold cpW; decide) hd (by decide), cpB_row]
  exact a_vret dOffice_copyFrom_144 rfl ⟨rfl, rfl, rfl, rfl⟩
abbrev cplWeek : List (Nat × Nat × Nat) := [(3, 0, 40), (2, 0, 40), (1, 0, 40), (0, 0, 1)]
theorem c_Week_copyFrom {S : Nat × (Nat → Int32)} {d n : Nat} {I : mI} {J : mJ} {R : mR} {o p : Nat} (hw : o ∈ m_wks) (hwr : wkR R o) (hwn : o + 3 < n) (hp : p ∈ m_wks) (hrp : wkR R p) (hpn : p + 3 < n)  (hd : o + 4 ≤ p ∨ p + 4 ≤ o) : RUN S (d + 1) YWeek_copyFrom [.ref o, .ref p] I J R n none (cpB I p o cplWeek) J R n := by
  have e0 : I = cpB I p o [] := cpB_nil.symm
  show AW S _ YWeek_copyFrom n n _ 0 [(0, .ref o), (1, .ref p)] [] I J R n
  rw [show (AW S (d + 1) YWeek_copyFrom n n (m_res none (cpB I p o cplWeek) J R) 0 [(0, .ref o), (1, .ref p)] [] I J R n) = (AW S (d + 1) YWeek_copyFrom n n (m_res none (cpB I p o cplWeek) J R) 0 [(0, .ref o), (1, .ref p)] [] (cpB I p o []) J R n) by rw [cpB_nil]]
  refine a_aload_n 0 dWeek_copyFrom_0 rfl rfl ?_
  refine a_aload_n 1 dWeek_copyFrom_1 rfl rfl ?_
  refine a_geti dWeek_copyFrom_2 fl10_21 rfl (wk_l0 hp) (by omega) ?_
  rw [show (cpB I p o []) p 0 = I p 0 from (by rw [show cpB I p o [] p = I p from cpB_src (w := 4) (q := 0) (by unfold cpW; decide) hd (by decide)])]
  refine a_puti dWeek_copyFrom_5 fl10_21 rfl (wk_l0 hw) (by omega) ?_
  rw [cpB_up0]
  refine a_aload_n 1 dWeek_copyFrom_8 rfl rfl ?_
  refine a_geta (r := (p + 1)) dWeek_copyFrom_9 fl10_9 rfl (wk_l0 hp) (by omega) (hrp 0 (by decide)) ?_
  refine a_iconstN (a := 0) dWeek_copyFrom_12 (by decide) ?_
  refine a_aload_n 0 dWeek_copyFrom_13 rfl rfl ?_
  refine a_geta (r := (o + 1)) dWeek_copyFrom_14 fl10_9 rfl (wk_l0 hw) (by omega) (hwr 0 (by decide)) ?_
  refine a_iconstN (a := 0) dWeek_copyFrom_17 (by decide) ?_
  refine a_bipushN (a := 40) dWeek_copyFrom_18 (by decide) ?_
  refine a_copy dWeek_copyFrom_20 (m_in (i := 710) (by decide +kernel) rfl) (wk_l1 hp) (wk_l1 hw) (by decide) (by omega) (by omega) (by decide) (by decide) (by decide) (by decide) (by decide) (Nat.le_of_ble_eq_true rfl) ?_
  rw [show (nI 0).toNatClampNeg = 0 from rfl, show (nI 40).toNatClampNeg = 40 from rfl, show cpB I p o [(0, 0, 1)] (p + 1) = I (p + 1) from cpB_src (w := 4) (by unfold cpW; decide) hd (by decide), cpB_row]
  refine a_aload_n 1 dWeek_copyFrom_23 rfl rfl ?_
  refine a_geta (r := (p + 2)) dWeek_copyFrom_24 fl10_15 rfl (wk_l0 hp) (by omega) (hrp 1 (by decide)) ?_
  refine a_iconstN (a := 0) dWeek_copyFrom_27 (by decide) ?_
  refine a_aload_n 0 dWeek_copyFrom_28 rfl rfl ?_
  refine a_geta (r := (o + 2)) dWeek_copyFrom_29 fl10_15 rfl (wk_l0 hw) (by omega) (hwr 1 (by decide)) ?_
  refine a_iconstN (a := 0) dWeek_copyFrom_32 (by decide) ?_
  refine a_bipushN (a := 40) dWeek_copyFrom_33 (by decide) ?_
  refine a_copy dWeek_copyFrom_35 (m_in (i := 710) (by decide +kernel) rfl) (wk_l2 hp) (wk_l2 hw) (by decide) (by omega) (by omega) (by decide) (by decide) (by decide) (by decide) (by decide) (Nat.le_of_ble_eq_true rfl) ?_
  rw [show (nI 0).toNatClampNeg = 0 from rfl, show (nI 40).toNatClampNeg = 40 from rfl, show cpB I p o [(1, 0, 40), (0, 0, 1)] (p + 2) = I (p + 2) from cpB_src (w := 4) (by unfold cpW; decide) hd (by decide), cpB_row]
  refine a_aload_n 1 dWeek_copyFrom_38 rfl rfl ?_
  refine a_geta (r := (p + 3)) dWeek_copyFrom_39 fl10_18 rfl (wk_l0 hp) (by omega) (hrp 2 (by decide)) ?_
  refine a_iconstN (a := 0) dWeek_copyFrom_42 (by decide) ?_
  refine a_aload_n 0 dWeek_copyFrom_43 rfl rfl ?_
  refine a_geta (r := (o + 3)) dWeek_copyFrom_44 fl10_18 rfl (wk_l0 hw) (by omega) (hwr 2 (by decide)) ?_
  refine a_iconstN (a := 0) dWeek_copyFrom_47 (by decide) ?_
  refine a_bipushN (a := 40) dWeek_copyFrom_48 (by decide) ?_
  refine a_copy dWeek_copyFrom_50 (m_in (i := 710) (by decide +kernel) rfl) (wk_l3 hp) (wk_l3 hw) (by decide) (by omega) (by omega) (by decide) (by decide) (by decide) (by decide) (by decide) (Nat.le_of_ble_eq_true rfl) ?_
  rw [show (nI 0).toNatClampNeg = 0 from rfl, show (nI 40).toNatClampNeg = 40 from rfl, show cpB I p o [(2, 0, 40), (1, 0, 40), (0, 0, 1)] (p + 3) = I (p + 3) from cpB_src (w := 4) (by unfold cpW; decide) hd (by decide), cpB_row]
  exact a_vret dWeek_copyFrom_53 rfl ⟨rfl, rfl, rfl, rfl⟩
abbrev cplLog : List (Nat × Nat × Nat) := [(2, 0, 8), (1, 0, 8), (0, 0, 1)]
theorem c_Log_copyFrom {S : Nat × (Nat → Int32)} {d n : Nat} {I : mI} {J : mJ} {R : mR} {o p : Nat} (hg : o ∈ m_lgs) (hgr : lgR R o) (hgn : o + 2 < n) (hp : p ∈ m_lgs) (hrp : lgR R p) (hpn : p + 2 < n)  (hd : o + 3 ≤ p ∨ p + 3 ≤ o) : RUN S (d + 1) YLog_copyFrom [.ref o, .ref p] I J R n none (cpB I p o cplLog) J R n := by
  have e0 : I = cpB I p o [] := cpB_nil.symm
  show AW S _ YLog_copyFrom n n _ 0 [(0, .ref o), (1, .ref p)] [] I J R n
  rw [show (AW S (d + 1) YLog_copyFrom n n (m_res none (cpB I p o cplLog) J R) 0 [(0, .ref o), (1, .ref p)] [] I J R n) = (AW S (d + 1) YLog_copyFrom n n (m_res none (cpB I p o cplLog) J R) 0 [(0, .ref o), (1, .ref p)] [] (cpB I p o []) J R n) by rw [cpB_nil]]
  refine a_aload_n 0 dLog_copyFrom_0 rfl rfl ?_
  refine a_aload_n 1 dLog_copyFrom_1 rfl rfl ?_
  refine a_geti dLog_copyFrom_2 fl3_18 rfl (lg_l0 hp) (by omega) ?_
  rw [show (cpB I p o []) p 0 = I p 0 from (by rw [show cpB I p o [] p = I p from cpB_src (w := 3) (q := 0) (by unfold cpW; decide) hd (by decide)])]
  refine a_puti dLog_copyFrom_5 fl3_18 rfl (lg_l0 hg) (by omega) ?_
  rw [cpB_up0]
  refine a_aload_n 1 dLog_copyFrom_8 rfl rfl ?_
  refine a_geta (r := (p + 1)) dLog_copyFrom_9 fl3_9 rfl (lg_l0 hp) (by omega) (hrp 0 (by decide)) ?_
  refine a_iconstN (a := 0) dLog_copyFrom_12 (by decide) ?_
  refine a_aload_n 0 dLog_copyFrom_13 rfl rfl ?_
  refine a_geta (r := (o + 1)) dLog_copyFrom_14 fl3_9 rfl (lg_l0 hg) (by omega) (hgr 0 (by decide)) ?_
  refine a_iconstN (a := 0) dLog_copyFrom_17 (by decide) ?_
  refine a_bipushN (a := 8) dLog_copyFrom_18 (by decide) ?_
  refine a_copy dLog_copyFrom_20 (m_in (i := 715) (by decide +kernel) rfl) (lg_l1 hp) (lg_l1 hg) (by decide) (by omega) (by omega) (by decide) (by decide) (by decide) (by decide) (by decide) (Nat.le_of_ble_eq_true rfl) ?_
  rw [show (nI 0).toNatClampNeg = 0 from rfl, show (nI 8).toNatClampNeg = 8 from rfl, show cpB I p o [(0, 0, 1)] (p + 1) = I (p + 1) from cpB_src (w := 3) (by unfold cpW; decide) hd (by decide), cpB_row]
  refine a_aload_n 1 dLog_copyFrom_23 rfl rfl ?_
  refine a_geta (r := (p + 2)) dLog_copyFrom_24 fl3_15 rfl (lg_l0 hp) (by omega) (hrp 1 (by decide)) ?_
  refine a_iconstN (a := 0) dLog_copyFrom_27 (by decide) ?_
  refine a_aload_n 0 dLog_copyFrom_28 rfl rfl ?_
  refine a_geta (r := (o + 2)) dLog_copyFrom_29 fl3_15 rfl (lg_l0 hg) (by omega) (hgr 1 (by decide)) ?_
  refine a_iconstN (a := 0) dLog_copyFrom_32 (by decide) ?_
  refine a_bipushN (a := 8) dLog_copyFrom_33 (by decide) ?_
  refine a_copy dLog_copyFrom_35 (m_in (i := 715) (by decide +kernel) rfl) (lg_l2 hp) (lg_l2 hg) (by decide) (by omega) (by omega) (by decide) (by decide) (by decide) (by decide) (by decide) (Nat.le_of_ble_eq_true rfl) ?_
  rw [show (nI 0).toNatClampNeg = 0 from rfl, show (nI 8).toNatClampNeg = 8 from rfl, show cpB I p o [(1, 0, 8), (0, 0, 1)] (p + 2) = I (p + 2) from cpB_src (w := 3) (by unfold cpW; decide) hd (by decide), cpB_row]
  exact a_vret dLog_copyFrom_38 rfl ⟨rfl, rfl, rfl, rfl⟩
def m_tlds : List Nat := [1, 122, 160, 198]
def tolR (R : mR) (t : Nat) : Prop := (R t 0 = some (t + 1)) ∧ (R t 4 = some (t + 2)) ∧ (R t 5 = some (t + 3)) ∧ (R t 6 = some (t + 22)) ∧ (R t 7 = some (t + 31)) ∧ (R (t + 3) 0 = some (t + 4)) ∧ (R (t + 3) 1 = some (t + 13)) ∧ (R (t + 22) 0 = some (t + 23)) ∧ (R (t + 22) 1 = some (t + 27)) ∧ (R (t + 31) 0 = some (t + 32)) ∧ (R (t + 31) 1 = some (t + 35)) ∧ (offR R (t + 4)) ∧ (offR R (t + 13)) ∧ (wkR R (t + 23)) ∧ (wkR R (t + 27)) ∧ (lgR R (t + 32)) ∧ (lgR R (t + 35))
theorem tolR.tp {R : mR} {t : Nat} (h : tolR R t) : R t 0 = some (t + 1) := h.1
theorem tolR.cs {R : mR} {t : Nat} (h : tolR R t) : R t 4 = some (t + 2) := h.2.1
theorem tolR.os {R : mR} {t : Nat} (h : tolR R t) : R t 5 = some (t + 3) := h.2.2.1
theorem tolR.ws {R : mR} {t : Nat} (h : tolR R t) : R t 6 = some (t + 22) := h.2.2.2.1
theorem tolR.gs {R : mR} {t : Nat} (h : tolR R t) : R t 7 = some (t + 31) := h.2.2.2.2.1
theorem tolR.o0 {R : mR} {t : Nat} (h : tolR R t) : R (t + 3) 0 = some (t + 4) := h.2.2.2.2.2.1
theorem tolR.o1 {R : mR} {t : Nat} (h : tolR R t) : R (t + 3) 1 = some (t + 13) := h.2.2.2.2.2.2.1
theorem tolR.w0 {R : mR} {t : Nat} (h : tolR R t) : R (t + 22) 0 = some (t + 23) := h.2.2.2.2.2.2.2.1
theorem tolR.w1 {R : mR} {t : Nat} (h : tolR R t) : R (t + 22) 1 = some (t + 27) := h.2.2.2.2.2.2.2.2.1
theorem tolR.g0 {R : mR} {t : Nat} (h : tolR R t) : R (t + 31) 0 = some (t + 32) := h.2.2.2.2.2.2.2.2.2.1
theorem tolR.g1 {R : mR} {t : Nat} (h : tolR R t) : R (t + 31) 1 = some (t + 35) := h.2.2.2.2.2.2.2.2.2.2.1
theorem tolR.oo0 {R : mR} {t : Nat} (h : tolR R t) : offR R (t + 4) := h.2.2.2.2.2.2.2.2.2.2.2.1
theorem tolR.oo1 {R : mR} {t : Nat} (h : tolR R t) : offR R (t + 13) := h.2.2.2.2.2.2.2.2.2.2.2.2.1
theorem tolR.ww0 {R : mR} {t : Nat} (h : tolR R t) : wkR R (t + 23) := h.2.2.2.2.2.2.2.2.2.2.2.2.2.1
theorem tolR.ww1 {R : mR} {t : Nat} (h : tolR R t) : wkR R (t + 27) := h.2.2.2.2.2.2.2.2.2.2.2.2.2.2.1
theorem tolR.gg0 {R : mR} {t : Nat} (h : tolR R t) : lgR R (t + 32) := h.2.2.2.2.2.2.2.2.2.2.2.2.2.2.2.1
theorem tolR.gg1 {R : mR} {t : Nat} (h : tolR R t) : lgR R (t + 35) := h.2.2.2.2.2.2.2.2.2.2.2.2.2.2.2.2
theorem tl_d {t u : Nat} (ht : t ∈ m_tlds) (hu : u ∈ m_tlds) (h : t ≠ u) : t + 38 ≤ u ∨ u + 38 ≤ t := (show ∀ t ∈ m_tlds, ∀ u ∈ m_tlds, t ≠ u → (t + 38 ≤ u ∨ u + 38 ≤ t) by decide +kernel) t ht u hu h
theorem tl_0 {t : Nat} (h : t ∈ m_tlds) : m_lay t = (9, 8) := (show ∀ t ∈ m_tlds, m_lay t = (9, 8) by decide +kernel) t h
theorem tl_1 {t : Nat} (h : t ∈ m_tlds) : m_lay (t + 1) = (51, 600) := (show ∀ t ∈ m_tlds, m_lay (t + 1) = (51, 600) by decide +kernel) t h
theorem tl_2 {t : Nat} (h : t ∈ m_tlds) : m_lay (t + 2) = (50, 3) := (show ∀ t ∈ m_tlds, m_lay (t + 2) = (50, 3) by decide +kernel) t h
theorem tl_3 {t : Nat} (h : t ∈ m_tlds) : m_lay (t + 3) = (54, 2) := (show ∀ t ∈ m_tlds, m_lay (t + 3) = (54, 2) by decide +kernel) t h
theorem tl_22 {t : Nat} (h : t ∈ m_tlds) : m_lay (t + 22) = (55, 2) := (show ∀ t ∈ m_tlds, m_lay (t + 22) = (55, 2) by decide +kernel) t h
theorem tl_31 {t : Nat} (h : t ∈ m_tlds) : m_lay (t + 31) = (56, 2) := (show ∀ t ∈ m_tlds, m_lay (t + 31) = (56, 2) by decide +kernel) t h
theorem tm_4 {t : Nat} (h : t ∈ m_tlds) : t + 4 ∈ m_offs := (show ∀ t ∈ m_tlds, t + 4 ∈ m_offs by decide +kernel) t h
theorem tm_13 {t : Nat} (h : t ∈ m_tlds) : t + 13 ∈ m_offs := (show ∀ t ∈ m_tlds, t + 13 ∈ m_offs by decide +kernel) t h
theorem tm_23 {t : Nat} (h : t ∈ m_tlds) : t + 23 ∈ m_wks := (show ∀ t ∈ m_tlds, t + 23 ∈ m_wks by decide +kernel) t h
theorem tm_27 {t : Nat} (h : t ∈ m_tlds) : t + 27 ∈ m_wks := (show ∀ t ∈ m_tlds, t + 27 ∈ m_wks by decide +kernel) t h
theorem tm_32 {t : Nat} (h : t ∈ m_tlds) : t + 32 ∈ m_lgs := (show ∀ t ∈ m_tlds, t + 32 ∈ m_lgs by decide +kernel) t h
theorem tm_35 {t : Nat} (h : t ∈ m_tlds) : t + 35 ∈ m_lgs := (show ∀ t ∈ m_tlds, t + 35 ∈ m_lgs by decide +kernel) t h
abbrev cplTold : List (Nat × Nat × Nat) := [(37, 0, 8), (36, 0, 8), (35, 0, 1), (30, 0, 40), (29, 0, 40), (28, 0, 40), (27, 0, 1), (21, 0, 16), (20, 0, 10), (19, 0, 10), (18, 0, 10), (17, 0, 10), (16, 0, 10), (15, 0, 10), (14, 0, 6), (13, 2, 3), (13, 1, 2), (13, 0, 1), (34, 0, 8), (33, 0, 8), (32, 0, 1), (26, 0, 40), (25, 0, 40), (24, 0, 40), (23, 0, 1), (12, 0, 16), (11, 0, 10), (10, 0, 10), (9, 0, 10), (8, 0, 10), (7, 0, 10), (6, 0, 10), (5, 0, 6), (4, 2, 3), (4, 1, 2), (4, 0, 1), (2, 0, 3), (0, 3, 4), (0, 2, 3), (0, 1, 2), (1, 0, 600)]
theorem c_Told_copyFrom {S : Nat × (Nat → Int32)} {d n : Nat} {I : mI} {J : mJ} {R : mR} {t u : Nat} (ht : t ∈ m_tlds) (htr : tolR R t) (htn : t + 37 < n) (hu : u ∈ m_tlds) (hur : tolR R u) (hun : u + 37 < n) (hne : t ≠ u) : RUN S (d + 2) YTold_copyFrom [.ref t, .ref u] I J R n none (cpB I u t cplTold) J R n := by
  have hd := tl_d ht hu hne
  show AW S _ YTold_copyFrom n n _ 0 [(0, .ref t), (1, .ref u)] [] I J R n
  rw [show (AW S (d + 2) YTold_copyFrom n n (m_res none (cpB I u t cplTold) J R) 0 [(0, .ref t), (1, .ref u)] [] I J R n) = (AW S (d + 2) YTold_copyFrom n n (m_res none (cpB I u t cplTold) J R) 0 [(0, .ref t), (1, .ref u)] [] (cpB I u t []) J R n) by rw [cpB_nil]]
  refine a_aload_n 1 dTold_copyFrom_0 rfl rfl ?_
  refine a_geta (r := (u + 1)) dTold_copyFrom_1 fl9_9 rfl (tl_0 hu) (by omega) hur.tp ?_
  refine a_iconstN (a := 0) dTold_copyFrom_4 (by decide) ?_
  refine a_aload_n 0 dTold_copyFrom_5 rfl rfl ?_
  refine a_geta (r := (t + 1)) dTold_copyFrom_6 fl9_9 rfl (tl_0 ht) (by omega) htr.tp ?_
  refine a_iconstN (a := 0) dTold_copyFrom_9 (by decide) ?_
  refine a_sipushN (a := 600) dTold_copyFrom_10 (by decide) ?_
  refine a_copy dTold_copyFrom_13 (m_in (i := 1175) (by decide +kernel) rfl) (tl_1 hu) (tl_1 ht) (by decide) (by omega) (by omega) (by decide) (by decide) (by decide) (by decide) (by decide) (Nat.le_of_ble_eq_true rfl) ?_
  rw [show (nI 0).toNatClampNeg = 0 from rfl, show (nI 600).toNatClampNeg = 600 from rfl, show cpB I u t [] (u + 1) = I (u + 1) from cpB_src (w := 38) (by unfold cpW; decide) hd (by decide), cpB_row]
  refine a_aload_n 0 dTold_copyFrom_16 rfl rfl ?_
  refine a_aload_n 1 dTold_copyFrom_17 rfl rfl ?_
  refine a_geti dTold_copyFrom_18 fl9_50 rfl (tl_0 hu) (by omega) ?_
  rw [show (cpB I u t [(1, 0, 600)]) u 1 = I u 1 from (by rw [show cpB I u t [(1, 0, 600)] u = I u from cpB_src (w := 38) (q := 0) (by unfold cpW; decide) hd (by decide)])]
  refine a_puti dTold_copyFrom_21 fl9_50 rfl (tl_0 ht) (by omega) ?_
  rw [cpB_up0]
  refine a_aload_n 0 dTold_copyFrom_24 rfl rfl ?_
  refine a_aload_n 1 dTold_copyFrom_25 rfl rfl ?_
  refine a_geti dTold_copyFrom_26 fl9_53 rfl (tl_0 hu) (by omega) ?_
  rw [show (cpB I u t [(0, 1, 2), (1, 0, 600)]) u 2 = I u 2 from (by rw [show cpB I u t [(0, 1, 2), (1, 0, 600)] u = I u from cpB_src (w := 38) (q := 0) (by unfold cpW; decide) hd (by decide)])]
  refine a_puti dTold_copyFrom_29 fl9_53 rfl (tl_0 ht) (by omega) ?_
  rw [cpB_up0]
  refine a_aload_n 0 dTold_copyFrom_32 rfl rfl ?_
  refine a_aload_n 1 dTold_copyFrom_33 rfl rfl ?_
  refine a_geti dTold_copyFrom_34 fl9_15 rfl (tl_0 hu) (by omega) ?_
  rw [show (cpB I u t [(0, 2, 3), (0, 1, 2), (1, 0, 600)]) u 3 = I u 3 from (by rw [show cpB I u t [(0, 2, 3), (0, 1, 2), (1, 0, 600)] u = I u from cpB_src (w := 38) (q := 0) (by unfold cpW; decide) hd (by decide)])]
  refine a_puti dTold_copyFrom_37 fl9_15 rfl (tl_0 ht) (by omega) ?_
  rw [cpB_up0]
  refine a_aload_n 1 dTold_copyFrom_40 rfl rfl ?_
  refine a_geta (r := (u + 2)) dTold_copyFrom_41 fl9_19 rfl (tl_0 hu) (by omega) hur.cs ?_
  refine a_iconstN (a := 0) dTold_copyFrom_44 (by decide) ?_
  refine a_aload_n 0 dTold_copyFrom_45 rfl rfl ?_
  refine a_geta (r := (t + 2)) dTold_copyFrom_46 fl9_19 rfl (tl_0 ht) (by omega) htr.cs ?_
  refine a_iconstN (a := 0) dTold_copyFrom_49 (by decide) ?_
  refine a_iconstN (a := 3) dTold_copyFrom_50 (by decide) ?_
  refine a_copy dTold_copyFrom_51 (m_in (i := 1175) (by decide +kernel) rfl) (tl_2 hu) (tl_2 ht) (by decide) (by omega) (by omega) (by decide) (by decide) (by decide) (by decide) (by decide) (Nat.le_of_ble_eq_true rfl) ?_
  rw [show (nI 0).toNatClampNeg = 0 from rfl, show (nI 3).toNatClampNeg = 3 from rfl, show cpB I u t [(0, 3, 4), (0, 2, 3), (0, 1, 2), (1, 0, 600)] (u + 2) = I (u + 2) from cpB_src (w := 38) (by unfold cpW; decide) hd (by decide), cpB_row]
  refine a_iconstN (a := 0) dTold_copyFrom_54 (by decide) ?_
  refine a_istore_n (lv' := [(2, .int (nI 0)), (0, .ref t), (1, .ref u)]) dTold_copyFrom_55 rfl (by decide) rfl ?_
  refine a_iload_n 0 dTold_copyFrom_56 rfl rfl ?_
  refine a_iconstN (a := 2) dTold_copyFrom_57 (by decide) ?_
  refine a_icmp_geN (tgt := 112) dTold_copyFrom_58 (by decide) (by omega) (by omega) (fun c => False.elim (by omega)) (fun _ => ?_)
  refine a_aload_n 1 dTold_copyFrom_61 rfl rfl ?_
  refine a_geta (r := (t + 3)) dTold_copyFrom_62 fl9_26 rfl (tl_0 ht) (by omega) htr.os ?_
  refine a_iload_n 0 dTold_copyFrom_65 rfl rfl ?_
  refine a_aaldN2 (r := (t + 4)) dTold_copyFrom_66 (tl_3 ht) (by omega) (by omega) (by omega) (by omega) (by decide) htr.o0 ?_
  refine a_aload_n 2 dTold_copyFrom_67 rfl rfl ?_
  refine a_geta (r := (u + 3)) dTold_copyFrom_68 fl9_26 rfl (tl_0 hu) (by omega) hur.os ?_
  refine a_iload_n 0 dTold_copyFrom_71 rfl rfl ?_
  refine a_aaldN2 (r := (u + 4)) dTold_copyFrom_72 (tl_3 hu) (by omega) (by omega) (by omega) (by omega) (by decide) hur.o0 ?_
  refine a_callV (Q' := m_res none (cpB I u t [(12, 0, 16), (11, 0, 10), (10, 0, 10), (9, 0, 10), (8, 0, 10), (7, 0, 10), (6, 0, 10), (5, 0, 6), (4, 2, 3), (4, 1, 2), (4, 0, 1), (2, 0, 3), (0, 3, 4), (0, 2, 3), (0, 1, 2), (1, 0, 600)]) J R) (as := [.ref (u + 4)]) (st := []) dTold_copyFrom_73 ml9_56 rfl (Nat.le_of_ble_eq_true rfl) (of_l0 (tm_4 ht)) rfl rfl (by decide) (by omega) (Nat.le_of_ble_eq_true rfl) rfl (Nat.le_refl _) (Nat.le_refl _) (by have h := c_Office_copyFrom (S := S) (d := d) (n := n) (J := J) (I := (cpB I u t [(2, 0, 3), (0, 3, 4), (0, 2, 3), (0, 1, 2), (1, 0, 600)])) (tm_4 ht) htr.oo0 (by omega) (tm_4 hu) hur.oo0 (by omega) (by omega); rw [show cpB (cpB I u t [(2, 0, 3), (0, 3, 4), (0, 2, 3), (0, 1, 2), (1, 0, 600)]) (u + 4) (t + 4) cplOffice = (cpB I u t [(12, 0, 16), (11, 0, 10), (10, 0, 10), (9, 0, 10), (8, 0, 10), (7, 0, 10), (6, 0, 10), (5, 0, 6), (4, 2, 3), (4, 1, 2), (4, 0, 1), (2, 0, 3), (0, 3, 4), (0, 2, 3), (0, 1, 2), (1, 0, 600)]) from cpB_cpB (w := 38) (w' := 9) (by unfold cpW; decide) (by unfold cpW; decide) hd (by decide)] at h; exact h) (m_go ?_)
  show AW _ _ _ _ _ _ _ _ [] _ _ _ _
  refine a_aload_n 1 dTold_copyFrom_76 rfl rfl ?_
  refine a_geta (r := (t + 22)) dTold_copyFrom_77 fl9_33 rfl (tl_0 ht) (by omega) htr.ws ?_
  refine a_iload_n 0 dTold_copyFrom_80 rfl rfl ?_
  refine a_aaldN2 (r := (t + 23)) dTold_copyFrom_81 (tl_22 ht) (by omega) (by omega) (by omega) (by omega) (by decide) htr.w0 ?_
  refine a_aload_n 2 dTold_copyFrom_82 rfl rfl ?_
  refine a_geta (r := (u + 22)) dTold_copyFrom_83 fl9_33 rfl (tl_0 hu) (by omega) hur.ws ?_
  refine a_iload_n 0 dTold_copyFrom_86 rfl rfl ?_
  refine a_aaldN2 (r := (u + 23)) dTold_copyFrom_87 (tl_22 hu) (by omega) (by omega) (by omega) (by omega) (by decide) hur.w0 ?_
  refine a_callV (Q' := m_res none (cpB I u t [(26, 0, 40), (25, 0, 40), (24, 0, 40), (23, 0, 1), (12, 0, 16), (11, 0, 10), (10, 0, 10), (9, 0, 10), (8, 0, 10), (7, 0, 10), (6, 0, 10), (5, 0, 6), (4, 2, 3), (4, 1, 2), (4, 0, 1), (2, 0, 3), (0, 3, 4), (0, 2, 3), (0, 1, 2), (1, 0, 600)]) J R) (as := [.ref (u + 23)]) (st := []) dTold_copyFrom_88 ml9_60 rfl (Nat.le_of_ble_eq_true rfl) (wk_l0 (tm_23 ht)) rfl rfl (by decide) (by omega) (Nat.le_of_ble_eq_true rfl) rfl (Nat.le_refl _) (Nat.le_refl _) (by have h := c_Week_copyFrom (S := S) (d := d) (n := n) (J := J) (I := (cpB I u t [(12, 0, 16), (11, 0, 10), (10, 0, 10), (9, 0, 10), (8, 0, 10), (7, 0, 10), (6, 0, 10), (5, 0, 6), (4, 2, 3), (4, 1, 2), (4, 0, 1), (2, 0, 3), (0, 3, 4), (0, 2, 3), (0, 1, 2), (1, 0, 600)])) (tm_23 ht) htr.ww0 (by omega) (tm_23 hu) hur.ww0 (by omega) (by omega); rw [show cpB (cpB I u t [(12, 0, 16), (11, 0, 10), (10, 0, 10), (9, 0, 10), (8, 0, 10), (7, 0, 10), (6, 0, 10), (5, 0, 6), (4, 2, 3), (4, 1, 2), (4, 0, 1), (2, 0, 3), (0, 3, 4), (0, 2, 3), (0, 1, 2), (1, 0, 600)]) (u + 23) (t + 23) cplWeek = (cpB I u t [(26, 0, 40), (25, 0, 40), (24, 0, 40), (23, 0, 1), (12, 0, 16), (11, 0, 10), (10, 0, 10), (9, 0, 10), (8, 0, 10), (7, 0, 10), (6, 0, 10), (5, 0, 6), (4, 2, 3), (4, 1, 2), (4, 0, 1), (2, 0, 3), (0, 3, 4), (0, 2, 3), (0, 1, 2), (1, 0, 600)]) from cpB_cpB (w := 38) (w' := 4) (by unfold cpW; decide) (by unfold cpW; decide) hd (by decide)] at h; exact h) (m_go ?_)
  show AW _ _ _ _ _ _ _ _ [] _ _ _ _
  refine a_aload_n 1 dTold_copyFrom_91 rfl rfl ?_
  refine a_geta (r := (t + 31)) dTold_copyFrom_92 fl9_40 rfl (tl_0 ht) (by omega) htr.gs ?_
  refine a_iload_n 0 dTold_copyFrom_95 rfl rfl ?_
  refine a_aaldN2 (r := (t + 32)) dTold_copyFrom_96 (tl_31 ht) (by omega) (by omega) (by omega) (by omega) (by decide) htr.g0 ?_
  refine a_aload_n 2 dTold_copyFrom_97 rfl rfl ?_
  refine a_geta (r := (u + 31)) dTold_copyFrom_98 fl9_40 rfl (tl_0 hu) (by omega) hur.gs ?_
  refine a_iload_n 0 dTold_copyFrom_101 rfl rfl ?_
  refine a_aaldN2 (r := (u + 32)) dTold_copyFrom_102 (tl_31 hu) (by omega) (by omega) (by omega) (by omega) (by decide) hur.g0 ?_
  refine a_callV (Q' := m_res none (cpB I u t [(34, 0, 8), (33, 0, 8), (32, 0, 1), (26, 0, 40), (25, 0, 40), (24, 0, 40), (23, 0, 1), (12, 0, 16), (11, 0, 10), (10, 0, 10), (9, 0, 10), (8, 0, 10), (7, 0, 10), (6, 0, 10), (5, 0, 6), (4, 2, 3), (4, 1, 2), (4, 0, 1), (2, 0, 3), (0, 3, 4), (0, 2, 3), (0, 1, 2), (1, 0, 600)]) J R) (as := [.ref (u + 32)]) (st := []) dTold_copyFrom_103 ml9_63 rfl (Nat.le_of_ble_eq_true rfl) (lg_l0 (tm_32 ht)) rfl rfl (by decide) (by omega) (Nat.le_of_ble_eq_true rfl) rfl (Nat.le_refl _) (Nat.le_refl _) (by have h := c_Log_copyFrom (S := S) (d := d) (n := n) (J := J) (I := (cpB I u t [(26, 0, 40), (25, 0, 40), (24, 0, 40), (23, 0, 1), (12, 0, 16), (11, 0, 10), (10, 0, 10), (9, 0, 10), (8, 0, 10), (7, 0, 10), (6, 0, 10), (5, 0, 6), (4, 2, 3), (4, 1, 2), (4, 0, 1), (2, 0, 3), (0, 3, 4), (0, 2, 3), (0, 1, 2), (1, 0, 600)])) (tm_32 ht) htr.gg0 (by omega) (tm_32 hu) hur.gg0 (by omega) (by omega); rw [show cpB (cpB I u t [(26, 0, 40), (25, 0, 40), (24, 0, 40), (23, 0, 1), (12, 0, 16), (11, 0, 10), (10, 0, 10), (9, 0, 10), (8, 0, 10), (7, 0, 10), (6, 0, 10), (5, 0, 6), (4, 2, 3), (4, 1, 2), (4, 0, 1), (2, 0, 3), (0, 3, 4), (0, 2, 3), (0, 1, 2), (1, 0, 600)]) (u + 32) (t + 32) cplLog = (cpB I u t [(34, 0, 8), (33, 0, 8), (32, 0, 1), (26, 0, 40), (25, 0, 40), (24, 0, 40), (23, 0, 1), (12, 0, 16), (11, 0, 10), (10, 0, 10), (9, 0, 10), (8, 0, 10), (7, 0, 10), (6, 0, 10), (5, 0, 6), (4, 2, 3), (4, 1, 2), (4, 0, 1), (2, 0, 3), (0, 3, 4), (0, 2, 3), (0, 1, 2), (1, 0, 600)]) from cpB_cpB (w := 38) (w' := 3) (by unfold cpW; decide) (by unfold cpW; decide) hd (by decide)] at h; exact h) (m_go ?_)
  show AW _ _ _ _ _ _ _ _ [] _ _ _ _
  refine a_iincN (lv' := [(2, .int (nI (0 + 1))), (0, .ref t), (1, .ref u)]) (j := 0) dTold_copyFrom_106 rfl (by decide) rfl ?_
  refine a_goto (tgt := 56) dTold_copyFrom_109 (by decide) ?_
  refine a_iload_n 0 dTold_copyFrom_56 rfl rfl ?_
  refine a_iconstN (a := 2) dTold_copyFrom_57 (by decide) ?_
  refine a_icmp_geN (tgt := 112) dTold_copyFrom_58 (by decide) (by omega) (by omega) (fun c => False.elim (by omega)) (fun _ => ?_)
  refine a_aload_n 1 dTold_copyFrom_61 rfl rfl ?_
  refine a_geta (r := (t + 3)) dTold_copyFrom_62 fl9_26 rfl (tl_0 ht) (by omega) htr.os ?_
  refine a_iload_n 0 dTold_copyFrom_65 rfl rfl ?_
  refine a_aaldN2 (r := (t + 13)) dTold_copyFrom_66 (tl_3 ht) (by omega) (by omega) (by omega) (by omega) (by decide) htr.o1 ?_
  refine a_aload_n 2 dTold_copyFrom_67 rfl rfl ?_
  refine a_geta (r := (u + 3)) dTold_copyFrom_68 fl9_26 rfl (tl_0 hu) (by omega) hur.os ?_
  refine a_iload_n 0 dTold_copyFrom_71 rfl rfl ?_
  refine a_aaldN2 (r := (u + 13)) dTold_copyFrom_72 (tl_3 hu) (by omega) (by omega) (by omega) (by omega) (by decide) hur.o1 ?_
  refine a_callV (Q' := m_res none (cpB I u t [(21, 0, 16), (20, 0, 10), (19, 0, 10), (18, 0, 10), (17, 0, 10), (16, 0, 10), (15, 0, 10), (14, 0, 6), (13, 2, 3), (13, 1, 2), (13, 0, 1), (34, 0, 8), (33, 0, 8), (32, 0, 1), (26, 0, 40), (25, 0, 40), (24, 0, 40), (23, 0, 1), (12, 0, 16), (11, 0, 10), (10, 0, 10), (9, 0, 10), (8, 0, 10), (7, 0, 10), (6, 0, 10), (5, 0, 6), (4, 2, 3), (4, 1, 2), (4, 0, 1), (2, 0, 3), (0, 3, 4), (0, 2, 3), (0, 1, 2), (1, 0, 600)]) J R) (as := [.ref (u + 13)]) (st := []) dTold_copyFrom_73 ml9_56 rfl (Nat.le_of_ble_eq_true rfl) (of_l0 (tm_13 ht)) rfl rfl (by decide) (by omega) (Nat.le_of_ble_eq_true rfl) rfl (Nat.le_refl _) (Nat.le_refl _) (by have h := c_Office_copyFrom (S := S) (d := d) (n := n) (J := J) (I := (cpB I u t [(34, 0, 8), (33, 0, 8), (32, 0, 1), (26, 0, 40), (25, 0, 40), (24, 0, 40), (23, 0, 1), (12, 0, 16), (11, 0, 10), (10, 0, 10), (9, 0, 10), (8, 0, 10), (7, 0, 10), (6, 0, 10), (5, 0, 6), (4, 2, 3), (4, 1, 2), (4, 0, 1), (2, 0, 3), (0, 3, 4), (0, 2, 3), (0, 1, 2), (1, 0, 600)])) (tm_13 ht) htr.oo1 (by omega) (tm_13 hu) hur.oo1 (by omega) (by omega); rw [show cpB (cpB I u t [(34, 0, 8), (33, 0, 8), (32, 0, 1), (26, 0, 40), (25, 0, 40), (24, 0, 40), (23, 0, 1), (12, 0, 16), (11, 0, 10), (10, 0, 10), (9, 0, 10), (8, 0, 10), (7, 0, 10), (6, 0, 10), (5, 0, 6), (4, 2, 3), (4, 1, 2), (4, 0, 1), (2, 0, 3), (0, 3, 4), (0, 2, 3), (0, 1, 2), (1, 0, 600)]) (u + 13) (t + 13) cplOffice = (cpB I u t [(21, 0, 16), (20, 0, 10), (19, 0, 10), (18, 0, 10), (17, 0, 10), (16, 0, 10), (15, 0, 10), (14, 0, 6), (13, 2, 3), (13, 1, 2), (13, 0, 1), (34, 0, 8), (33, 0, 8), (32, 0, 1), (26, 0, 40), (25, 0, 40), (24, 0, 40), (23, 0, 1), (12, 0, 16), (11, 0, 10), (10, 0, 10), (9, 0, 10), (8, 0, 10), (7, 0, 10), (6, 0, 10), (5, 0, 6), (4, 2, 3), (4, 1, 2), (4, 0, 1), (2, 0, 3), (0, 3, 4), (0, 2, 3), (0, 1, 2), (1, 0, 600)]) from cpB_cpB (w := 38) (w' := 9) (by unfold cpW; decide) (by unfold cpW; decide) hd (by decide)] at h; exact h) (m_go ?_)
  show AW _ _ _ _ _ _ _ _ [] _ _ _ _
  refine a_aload_n 1 dTold_copyFrom_76 rfl rfl ?_
  refine a_geta (r := (t + 22)) dTold_copyFrom_77 fl9_33 rfl (tl_0 ht) (by omega) htr.ws ?_
  refine a_iload_n 0 dTold_copyFrom_80 rfl rfl ?_
  refine a_aaldN2 (r := (t + 27)) dTold_copyFrom_81 (tl_22 ht) (by omega) (by omega) (by omega) (by omega) (by decide) htr.w1 ?_
  refine a_aload_n 2 dTold_copyFrom_82 rfl rfl ?_
  refine a_geta (r := (u + 22)) dTold_copyFrom_83 fl9_33 rfl (tl_0 hu) (by omega) hur.ws ?_
  refine a_iload_n 0 dTold_copyFrom_86 rfl rfl ?_
  refine a_aaldN2 (r := (u + 27)) dTold_copyFrom_87 (tl_22 hu) (by omega) (by omega) (by omega) (by omega) (by decide) hur.w1 ?_
  refine a_callV (Q' := m_res none (cpB I u t [(30, 0, 40), (29, 0, 40), (28, 0, 40), (27, 0, 1), (21, 0, 16), (20, 0, 10), (19, 0, 10), (18, 0, 10), (17, 0, 10), (16, 0, 10), (15, 0, 10), (14, 0, 6), (13, 2, 3), (13, 1, 2), (13, 0, 1), (34, 0, 8), (33, 0, 8), (32, 0, 1), (26, 0, 40), (25, 0, 40), (24, 0, 40), (23, 0, 1), (12, 0, 16), (11, 0, 10), (10, 0, 10), (9, 0, 10), (8, 0, 10), (7, 0, 10), (6, 0, 10), (5, 0, 6), (4, 2, 3), (4, 1, 2), (4, 0, 1), (2, 0, 3), (0, 3, 4), (0, 2, 3), (0, 1, 2), (1, 0, 600)]) J R) (as := [.ref (u + 27)]) (st := []) dTold_copyFrom_88 ml9_60 rfl (Nat.le_of_ble_eq_true rfl) (wk_l0 (tm_27 ht)) rfl rfl (by decide) (by omega) (Nat.le_of_ble_eq_true rfl) rfl (Nat.le_refl _) (Nat.le_refl _) (by have h := c_Week_copyFrom (S := S) (d := d) (n := n) (J := J) (I := (cpB I u t [(21, 0, 16), (20, 0, 10), (19, 0, 10), (18, 0, 10), (17, 0, 10), (16, 0, 10), (15, 0, 10), (14, 0, 6), (13, 2, 3), (13, 1, 2), (13, 0, 1), (34, 0, 8), (33, 0, 8), (32, 0, 1), (26, 0, 40), (25, 0, 40), (24, 0, 40), (23, 0, 1), (12, 0, 16), (11, 0, 10), (10, 0, 10), (9, 0, 10), (8, 0, 10), (7, 0, 10), (6, 0, 10), (5, 0, 6), (4, 2, 3), (4, 1, 2), (4, 0, 1), (2, 0, 3), (0, 3, 4), (0, 2, 3), (0, 1, 2), (1, 0, 600)])) (tm_27 ht) htr.ww1 (by omega) (tm_27 hu) hur.ww1 (by omega) (by omega); rw [show cpB (cpB I u t [(21, 0, 16), (20, 0, 10), (19, 0, 10), (18, 0, 10), (17, 0, 10), (16, 0, 10), (15, 0, 10), (14, 0, 6), (13, 2, 3), (13, 1, 2), (13, 0, 1), (34, 0, 8), (33, 0, 8), (32, 0, 1), (26, 0, 40), (25, 0, 40), (24, 0, 40), (23, 0, 1), (12, 0, 16), (11, 0, 10), (10, 0, 10), (9, 0, 10), (8, 0, 10), (7, 0, 10), (6, 0, 10), (5, 0, 6), (4, 2, 3), (4, 1, 2), (4, 0, 1), (2, 0, 3), (0, 3, 4), (0, 2, 3), (0, 1, 2), (1, 0, 600)]) (u + 27) (t + 27) cplWeek = (cpB I u t [(30, 0, 40), (29, 0, 40), (28, 0, 40), (27, 0, 1), (21, 0, 16), (20, 0, 10), (19, 0, 10), (18, 0, 10), (17, 0, 10), (16, 0, 10), (15, 0, 10), (14, 0, 6), (13, 2, 3), (13, 1, 2), (13, 0, 1), (34, 0, 8), (33, 0, 8), (32, 0, 1), (26, 0, 40), (25, 0, 40), (24, 0, 40), (23, 0, 1), (12, 0, 16), (11, 0, 10), (10, 0, 10), (9, 0, 10), (8, 0, 10), (7, 0, 10), (6, 0, 10), (5, 0, 6), (4, 2, 3), (4, 1, 2), (4, 0, 1), (2, 0, 3), (0, 3, 4), (0, 2, 3), (0, 1, 2), (1, 0, 600)]) from cpB_cpB (w := 38) (w' := 4) (by unfold cpW; decide) (by unfold cpW; decide) hd (by decide)] at h; exact h) (m_go ?_)
  show AW _ _ _ _ _ _ _ _ [] _ _ _ _
  refine a_aload_n 1 dTold_copyFrom_91 rfl rfl ?_
  refine a_geta (r := (t + 31)) dTold_copyFrom_92 fl9_40 rfl (tl_0 ht) (by omega) htr.gs ?_
  refine a_iload_n 0 dTold_copyFrom_95 rfl rfl ?_
  refine a_aaldN2 (r := (t + 35)) dTold_copyFrom_96 (tl_31 ht) (by omega) (by omega) (by omega) (by omega) (by decide) htr.g1 ?_
  refine a_aload_n 2 dTold_copyFrom_97 rfl rfl ?_
  refine a_geta (r := (u + 31)) dTold_copyFrom_98 fl9_40 rfl (tl_0 hu) (by omega) hur.gs ?_
  refine a_iload_n 0 dTold_copyFrom_101 rfl rfl ?_
  refine a_aaldN2 (r := (u + 35)) dTold_copyFrom_102 (tl_31 hu) (by omega) (by omega) (by omega) (by omega) (by decide) hur.g1 ?_
  refine a_callV (Q' := m_res none (cpB I u t [(37, 0, 8), (36, 0, 8), (35, 0, 1), (30, 0, 40), (29, 0, 40), (28, 0, 40), (27, 0, 1), (21, 0, 16), (20, 0, 10), (19, 0, 10), (18, 0, 10), (17, 0, 10), (16, 0, 10), (15, 0, 10), (14, 0, 6), (13, 2, 3), (13, 1, 2), (13, 0, 1), (34, 0, 8), (33, 0, 8), (32, 0, 1), (26, 0, 40), (25, 0, 40), (24, 0, 40), (23, 0, 1), (12, 0, 16), (11, 0, 10), (10, 0, 10), (9, 0, 10), (8, 0, 10), (7, 0, 10), (6, 0, 10), (5, 0, 6), (4, 2, 3), (4, 1, 2), (4, 0, 1), (2, 0, 3), (0, 3, 4), (0, 2, 3), (0, 1, 2), (1, 0, 600)]) J R) (as := [.ref (u + 35)]) (st := []) dTold_copyFrom_103 ml9_63 rfl (Nat.le_of_ble_eq_true rfl) (lg_l0 (tm_35 ht)) rfl rfl (by decide) (by omega) (Nat.le_of_ble_eq_true rfl) rfl (Nat.le_refl _) (Nat.le_refl _) (by have h := c_Log_copyFrom (S := S) (d := d) (n := n) (J := J) (I := (cpB I u t [(30, 0, 40), (29, 0, 40), (28, 0, 40), (27, 0, 1), (21, 0, 16), (20, 0, 10), (19, 0, 10), (18, 0, 10), (17, 0, 10), (16, 0, 10), (15, 0, 10), (14, 0, 6), (13, 2, 3), (13, 1, 2), (13, 0, 1), (34, 0, 8), (33, 0, 8), (32, 0, 1), (26, 0, 40), (25, 0, 40), (24, 0, 40), (23, 0, 1), (12, 0, 16), (11, 0, 10), (10, 0, 10), (9, 0, 10), (8, 0, 10), (7, 0, 10), (6, 0, 10), (5, 0, 6), (4, 2, 3), (4, 1, 2), (4, 0, 1), (2, 0, 3), (0, 3, 4), (0, 2, 3), (0, 1, 2), (1, 0, 600)])) (tm_35 ht) htr.gg1 (by omega) (tm_35 hu) hur.gg1 (by omega) (by omega); rw [show cpB (cpB I u t [(30, 0, 40), (29, 0, 40), (28, 0, 40), (27, 0, 1), (21, 0, 16), (20, 0, 10), (19, 0, 10), (18, 0, 10), (17, 0, 10), (16, 0, 10), (15, 0, 10), (14, 0, 6), (13, 2, 3), (13, 1, 2), (13, 0, 1), (34, 0, 8), (33, 0, 8), (32, 0, 1), (26, 0, 40), (25, 0, 40), (24, 0, 40), (23, 0, 1), (12, 0, 16), (11, 0, 10), (10, 0, 10), (9, 0, 10), (8, 0, 10), (7, 0, 10), (6, 0, 10), (5, 0, 6), (4, 2, 3), (4, 1, 2), (4, 0, 1), (2, 0, 3), (0, 3, 4), (0, 2, 3), (0, 1, 2), (1, 0, 600)]) (u + 35) (t + 35) cplLog = (cpB I u t [(37, 0, 8), (36, 0, 8), (35, 0, 1), (30, 0, 40), (29, 0, 40), (28, 0, 40), (27, 0, 1), (21, 0, 16), (20, 0, 10), (19, 0, 10), (18, 0, 10), (17, 0, 10), (16, 0, 10), (15, 0, 10), (14, 0, 6), (13, 2, 3), (13, 1, 2), (13, 0, 1), (34, 0, 8), (33, 0, 8), (32, 0, 1), (26, 0, 40), (25, 0, 40), (24, 0, 40), (23, 0, 1), (12, 0, 16), (11, 0, 10), (10, 0, 10), (9, 0, 10), (8, 0, 10), (7, 0, 10), (6, 0, 10), (5, 0, 6), (4, 2, 3), (4, 1, 2), (4, 0, 1), (2, 0, 3), (0, 3, 4), (0, 2, 3), (0, 1, 2), (1, 0, 600)]) from cpB_cpB (w := 38) (w' := 3) (by unfold cpW; decide) (by unfold cpW; decide) hd (by decide)] at h; exact h) (m_go ?_)
  show AW _ _ _ _ _ _ _ _ [] _ _ _ _
  refine a_iincN (lv' := [(2, .int (nI ((0 + 1) + 1))), (0, .ref t), (1, .ref u)]) (j := 0) dTold_copyFrom_106 rfl (by decide) rfl ?_
  refine a_goto (tgt := 56) dTold_copyFrom_109 (by decide) ?_
  refine a_iload_n 0 dTold_copyFrom_56 rfl rfl ?_
  refine a_iconstN (a := 2) dTold_copyFrom_57 (by decide) ?_
  refine a_icmp_geN (tgt := 112) dTold_copyFrom_58 (by decide) (by omega) (by omega) (fun _ => ?_) (fun c => False.elim (by omega))
  exact a_vret dTold_copyFrom_112 rfl ⟨rfl, rfl, rfl, rfl⟩
theorem tolR_1 {R : mR} (h : m_fin R) : tolR R 1 := ⟨rf_1_0 h, rf_1_4 h, rf_1_5 h, rf_1_6 h, rf_1_7 h, rf_4_0 h, rf_4_1 h, rf_23_0 h, rf_23_1 h, rf_32_0 h, rf_32_1 h, fun k hk => (show ∀ k, k < 8 → (5, 3 + k, 5 + 1 + k) ∈ m_refs by decide +kernel) k hk |> h _, fun k hk => (show ∀ k, k < 8 → (14, 3 + k, 14 + 1 + k) ∈ m_refs by decide +kernel) k hk |> h _, fun k hk => (show ∀ k, k < 3 → (24, 1 + k, 24 + 1 + k) ∈ m_refs by decide +kernel) k hk |> h _, fun k hk => (show ∀ k, k < 3 → (28, 1 + k, 28 + 1 + k) ∈ m_refs by decide +kernel) k hk |> h _, fun k hk => (show ∀ k, k < 2 → (33, 1 + k, 33 + 1 + k) ∈ m_refs by decide +kernel) k hk |> h _, fun k hk => (show ∀ k, k < 2 → (36, 1 + k, 36 + 1 + k) ∈ m_refs by decide +kernel) k hk |> h _⟩
