theorem offF {R : mR} {o : Nat} (hR : m_fin R) (ho : ∀ k, k < 8 → (o, 3 + k, o + 1 + k) ∈ m_refs) : offR R o := fun k hk => hR (o, 3 + k, o + 1 + k) (ho k hk)
theorem wkF {R : mR} {o : Nat} (hR : m_fin R) (ho : ∀ k, k < 3 → (o, 1 + k, o + 1 + k) ∈ m_refs) : wkR R o := fun k hk => hR (o, 1 + k, o + 1 + k) (ho k hk)
theorem lgF {R : mR} {o : Nat} (hR : m_fin R) (ho : ∀ k, k < 2 → (o, 1 + k, o + 1 + k) ∈ m_refs) : lgR R o := fun k hk => hR (o, 1 + k, o + 1 + k) (ho k hk)
def mtV (I : mI) (s : Nat) (y : Int32) : Int32 := if y = -1 then (if I 3 s < nI 2 then 1 else 0) else f_of y (I 3 s)
theorem c_may0n1 {S : Nat × (Nat → Int32)} {d n : Nat} {I : mI} {J : mJ} {R : mR} (hn : 122 ≤ n) (hR : m_fin R) (h : I 3 0 < nI 2)  : RUN S (d + 1) YTold_mayTake [.ref 1, .int (nI 0), .int (-1)] I J R n (some (.int (nI 1))) I J R n := by
  show AW S _ YTold_mayTake n n _ 0 [(0, .ref 1), (1, .int (nI 0)), (2, .int (-1))] [] I J R n
  refine a_iload_n 1 dTold_mayTake_0 rfl rfl ?_
  refine a_if_lt (tgt := 9) dTold_mayTake_1 (by decide) (fun c => False.elim (nI_pos (by decide) c)) (fun _ => ?_)
  refine a_iload_n 1 dTold_mayTake_4 rfl rfl ?_
  refine a_iconstN (a := 3) dTold_mayTake_5 (by decide) ?_
  refine a_icmp_ltN (tgt := 11) dTold_mayTake_6 (by decide) (by omega) (by omega) (fun _ => ?_) (fun c => False.elim (by omega))
  refine a_iload_n 2 dTold_mayTake_11 rfl rfl ?_
  refine a_iconst (v := -1) dTold_mayTake_12 (by decide) ?_
  refine a_icmp_ne (tgt := 34) dTold_mayTake_13 (by decide) (fun c => False.elim (c rfl)) (fun _ => ?_)
  refine a_aload_n 0 dTold_mayTake_16 rfl rfl ?_
  refine a_geta (r := 3) dTold_mayTake_17 fl9_19 rfl ly_1 (by omega) (rf_1_4 hR) ?_
  refine a_iload_n 1 dTold_mayTake_20 rfl rfl ?_
  refine a_ialdN (a := 0) dTold_mayTake_21 ly_3 (by omega) (by omega) (by decide) ?_
  rw [show I 3 0 = I 3 0 from rfl]
  refine a_iconstN (a := 2) dTold_mayTake_22 (by decide) ?_
  refine a_icmp_ge (tgt := 30) dTold_mayTake_23 (by decide) (fun c => False.elim (Int32.not_lt.mpr c h)) (fun _ => ?_)
  refine a_iconstN (a := 1) dTold_mayTake_26 (by decide) ?_
  refine a_goto (tgt := 40) dTold_mayTake_27 (by decide) ?_
  exact a_zret dTold_mayTake_40 rfl (by rfl) ⟨rfl, rfl, rfl, rfl⟩
theorem c_may0n0 {S : Nat × (Nat → Int32)} {d n : Nat} {I : mI} {J : mJ} {R : mR} (hn : 122 ≤ n) (hR : m_fin R) (h : ¬ I 3 0 < nI 2)  : RUN S (d + 1) YTold_mayTake [.ref 1, .int (nI 0), .int (-1)] I J R n (some (.int (nI 0))) I J R n := by
  show AW S _ YTold_mayTake n n _ 0 [(0, .ref 1), (1, .int (nI 0)), (2, .int (-1))] [] I J R n
  refine a_iload_n 1 dTold_mayTake_0 rfl rfl ?_
  refine a_if_lt (tgt := 9) dTold_mayTake_1 (by decide) (fun c => False.elim (nI_pos (by decide) c)) (fun _ => ?_)
  refine a_iload_n 1 dTold_mayTake_4 rfl rfl ?_
  refine a_iconstN (a := 3) dTold_mayTake_5 (by decide) ?_
  refine a_icmp_ltN (tgt := 11) dTold_mayTake_6 (by decide) (by omega) (by omega) (fun _ => ?_) (fun c => False.elim (by omega))
  refine a_iload_n 2 dTold_mayTake_11 rfl rfl ?_
  refine a_iconst (v := -1) dTold_mayTake_12 (by decide) ?_
  refine a_icmp_ne (tgt := 34) dTold_mayTake_13 (by decide) (fun c => False.elim (c rfl)) (fun _ => ?_)
  refine a_aload_n 0 dTold_mayTake_16 rfl rfl ?_
  refine a_geta (r := 3) dTold_mayTake_17 fl9_19 rfl ly_1 (by omega) (rf_1_4 hR) ?_
  refine a_iload_n 1 dTold_mayTake_20 rfl rfl ?_
  refine a_ialdN (a := 0) dTold_mayTake_21 ly_3 (by omega) (by omega) (by decide) ?_
  rw [show I 3 0 = I 3 0 from rfl]
  refine a_iconstN (a := 2) dTold_mayTake_22 (by decide) ?_
  refine a_icmp_ge (tgt := 30) dTold_mayTake_23 (by decide) (fun _ => ?_) (fun c => False.elim (h (Int32.not_le.mp c)))
  refine a_iconstN (a := 0) dTold_mayTake_30 (by decide) ?_
  refine a_goto (tgt := 40) dTold_mayTake_31 (by decide) ?_
  exact a_zret dTold_mayTake_40 rfl (by rfl) ⟨rfl, rfl, rfl, rfl⟩
theorem c_may0o {S : Nat × (Nat → Int32)} {d n : Nat} {I : mI} {J : mJ} {R : mR} (hn : 122 ≤ n) (hR : m_fin R) {y : Int32} (hy : ¬ y = -1)  : RUN S (d + 1) YTold_mayTake [.ref 1, .int (nI 0), .int y] I J R n (some (.int (f_of y (I 3 0)))) I J R n := by
  show AW S _ YTold_mayTake n n _ 0 [(0, .ref 1), (1, .int (nI 0)), (2, .int y)] [] I J R n
  refine a_iload_n 1 dTold_mayTake_0 rfl rfl ?_
  refine a_if_lt (tgt := 9) dTold_mayTake_1 (by decide) (fun c => False.elim (nI_pos (by decide) c)) (fun _ => ?_)
  refine a_iload_n 1 dTold_mayTake_4 rfl rfl ?_
  refine a_iconstN (a := 3) dTold_mayTake_5 (by decide) ?_
  refine a_icmp_ltN (tgt := 11) dTold_mayTake_6 (by decide) (by omega) (by omega) (fun _ => ?_) (fun c => False.elim (by omega))
  refine a_iload_n 2 dTold_mayTake_11 rfl rfl ?_
  refine a_iconst (v := -1) dTold_mayTake_12 (by decide) ?_
  refine a_icmp_ne (tgt := 34) dTold_mayTake_13 (by decide) (fun _ => ?_) (fun c => False.elim (hy c))
  refine a_aload_n 0 dTold_mayTake_34 rfl rfl ?_
  refine a_iload_n 1 dTold_mayTake_35 rfl rfl ?_
  refine a_iload_n 2 dTold_mayTake_36 rfl rfl ?_
  refine a_callV (Q' := m_res (some (.int (f_of y (I 3 0)))) I J R) (as := [.int (nI 0), .int y]) (st := []) dTold_mayTake_37 ml9_66 rfl (Nat.le_of_ble_eq_true rfl) ly_1 rfl rfl (by decide) (by omega) (Nat.le_of_ble_eq_true rfl) rfl (Nat.le_refl _) (Nat.le_refl _) (c_Told_has hn hR (by decide)) (m_go ?_)
  show AW _ _ _ _ _ _ _ _ [.int (f_of y (I 3 0))] _ _ _ _
  exact a_zret dTold_mayTake_40 rfl (m_nz (f_of_01 _ _)) ⟨rfl, rfl, rfl, rfl⟩
theorem c_may1n1 {S : Nat × (Nat → Int32)} {d n : Nat} {I : mI} {J : mJ} {R : mR} (hn : 122 ≤ n) (hR : m_fin R) (h : I 3 1 < nI 2)  : RUN S (d + 1) YTold_mayTake [.ref 1, .int (nI 1), .int (-1)] I J R n (some (.int (nI 1))) I J R n := by
  show AW S _ YTold_mayTake n n _ 0 [(0, .ref 1), (1, .int (nI 1)), (2, .int (-1))] [] I J R n
  refine a_iload_n 1 dTold_mayTake_0 rfl rfl ?_
  refine a_if_lt (tgt := 9) dTold_mayTake_1 (by decide) (fun c => False.elim (nI_pos (by decide) c)) (fun _ => ?_)
  refine a_iload_n 1 dTold_mayTake_4 rfl rfl ?_
  refine a_iconstN (a := 3) dTold_mayTake_5 (by decide) ?_
  refine a_icmp_ltN (tgt := 11) dTold_mayTake_6 (by decide) (by omega) (by omega) (fun _ => ?_) (fun c => False.elim (by omega))
  refine a_iload_n 2 dTold_mayTake_11 rfl rfl ?_
  refine a_iconst (v := -1) dTold_mayTake_12 (by decide) ?_
  refine a_icmp_ne (tgt := 34) dTold_mayTake_13 (by decide) (fun c => False.elim (c rfl)) (fun _ => ?_)
  refine a_aload_n 0 dTold_mayTake_16 rfl rfl ?_
  refine a_geta (r := 3) dTold_mayTake_17 fl9_19 rfl ly_1 (by omega) (rf_1_4 hR) ?_
  refine a_iload_n 1 dTold_mayTake_20 rfl rfl ?_
  refine a_ialdN (a := 1) dTold_mayTake_21 ly_3 (by omega) (by omega) (by decide) ?_
  rw [show I 3 1 = I 3 1 from rfl]
  refine a_iconstN (a := 2) dTold_mayTake_22 (by decide) ?_
  refine a_icmp_ge (tgt := 30) dTold_mayTake_23 (by decide) (fun c => False.elim (Int32.not_lt.mpr c h)) (fun _ => ?_)
  refine a_iconstN (a := 1) dTold_mayTake_26 (by decide) ?_
  refine a_goto (tgt := 40) dTold_mayTake_27 (by decide) ?_
  exact a_zret dTold_mayTake_40 rfl (by rfl) ⟨rfl, rfl, rfl, rfl⟩
theorem c_may1n0 {S : Nat × (Nat → Int32)} {d n : Nat} {I : mI} {J : mJ} {R : mR} (hn : 122 ≤ n) (hR : m_fin R) (h : ¬ I 3 1 < nI 2)  : RUN S (d + 1) YTold_mayTake [.ref 1, .int (nI 1), .int (-1)] I J R n (some (.int (nI 0))) I J R n := by
  show AW S _ YTold_mayTake n n _ 0 [(0, .ref 1), (1, .int (nI 1)), (2, .int (-1))] [] I J R n
  refine a_iload_n 1 dTold_mayTake_0 rfl rfl ?_
  refine a_if_lt (tgt := 9) dTold_mayTake_1 (by decide) (fun c => False.elim (nI_pos (by decide) c)) (fun _ => ?_)
  refine a_iload_n 1 dTold_mayTake_4 rfl rfl ?_
  refine a_iconstN (a := 3) dTold_mayTake_5 (by decide) ?_
  refine a_icmp_ltN (tgt := 11) dTold_mayTake_6 (by decide) (by omega) (by omega) (fun _ => ?_) (fun c => False.elim (by omega))
  refine a_iload_n 2 dTold_mayTake_11 rfl rfl ?_
  refine a_iconst (v := -1) dTold_mayTake_12 (by decide) ?_
  refine a_icmp_ne (tgt := 34) dTold_mayTake_13 (by decide) (fun c => False.elim (c rfl)) (fun _ => ?_)
  refine a_aload_n 0 dTold_mayTake_16 rfl rfl ?_
  refine a_geta (r := 3) dTold_mayTake_17 fl9_19 rfl ly_1 (by omega) (rf_1_4 hR) ?_
  refine a_iload_n 1 dTold_mayTake_20 rfl rfl ?_
  refine a_ialdN (a := 1) dTold_mayTake_21 ly_3 (by omega) (by omega) (by decide) ?_
  rw [show I 3 1 = I 3 1 from rfl]
  refine a_iconstN (a := 2) dTold_mayTake_22 (by decide) ?_
  refine a_icmp_ge (tgt := 30) dTold_mayTake_23 (by decide) (fun _ => ?_) (fun c => False.elim (h (Int32.not_le.mp c)))
  refine a_iconstN (a := 0) dTold_mayTake_30 (by decide) ?_
  refine a_goto (tgt := 40) dTold_mayTake_31 (by decide) ?_
  exact a_zret dTold_mayTake_40 rfl (by rfl) ⟨rfl, rfl, rfl, rfl⟩
theorem c_may1o {S : Nat × (Nat → Int32)} {d n : Nat} {I : mI} {J : mJ} {R : mR} (hn : 122 ≤ n) (hR : m_fin R) {y : Int32} (hy : ¬ y = -1)  : RUN S (d + 1) YTold_mayTake [.ref 1, .int (nI 1), .int y] I J R n (some (.int (f_of y (I 3 1)))) I J R n := by
  show AW S _ YTold_mayTake n n _ 0 [(0, .ref 1), (1, .int (nI 1)), (2, .int y)] [] I J R n
  refine a_iload_n 1 dTold_mayTake_0 rfl rfl ?_
  refine a_if_lt (tgt := 9) dTold_mayTake_1 (by decide) (fun c => False.elim (nI_pos (by decide) c)) (fun _ => ?_)
  refine a_iload_n 1 dTold_mayTake_4 rfl rfl ?_
  refine a_iconstN (a := 3) dTold_mayTake_5 (by decide) ?_
  refine a_icmp_ltN (tgt := 11) dTold_mayTake_6 (by decide) (by omega) (by omega) (fun _ => ?_) (fun c => False.elim (by omega))
  refine a_iload_n 2 dTold_mayTake_11 rfl rfl ?_
  refine a_iconst (v := -1) dTold_mayTake_12 (by decide) ?_
  refine a_icmp_ne (tgt := 34) dTold_mayTake_13 (by decide) (fun _ => ?_) (fun c => False.elim (hy c))
  refine a_aload_n 0 dTold_mayTake_34 rfl rfl ?_
  refine a_iload_n 1 dTold_mayTake_35 rfl rfl ?_
  refine a_iload_n 2 dTold_mayTake_36 rfl rfl ?_
  refine a_callV (Q' := m_res (some (.int (f_of y (I 3 1)))) I J R) (as := [.int (nI 1), .int y]) (st := []) dTold_mayTake_37 ml9_66 rfl (Nat.le_of_ble_eq_true rfl) ly_1 rfl rfl (by decide) (by omega) (Nat.le_of_ble_eq_true rfl) rfl (Nat.le_refl _) (Nat.le_refl _) (c_Told_has hn hR (by decide)) (m_go ?_)
  show AW _ _ _ _ _ _ _ _ [.int (f_of y (I 3 1))] _ _ _ _
  exact a_zret dTold_mayTake_40 rfl (m_nz (f_of_01 _ _)) ⟨rfl, rfl, rfl, rfl⟩
theorem c_may2n1 {S : Nat × (Nat → Int32)} {d n : Nat} {I : mI} {J : mJ} {R : mR} (hn : 122 ≤ n) (hR : m_fin R) (h : I 3 2 < nI 2)  : RUN S (d + 1) YTold_mayTake [.ref 1, .int (nI 2), .int (-1)] I J R n (some (.int (nI 1))) I J R n := by
  show AW S _ YTold_mayTake n n _ 0 [(0, .ref 1), (1, .int (nI 2)), (2, .int (-1))] [] I J R n
  refine a_iload_n 1 dTold_mayTake_0 rfl rfl ?_
  refine a_if_lt (tgt := 9) dTold_mayTake_1 (by decide) (fun c => False.elim (nI_pos (by decide) c)) (fun _ => ?_)
  refine a_iload_n 1 dTold_mayTake_4 rfl rfl ?_
  refine a_iconstN (a := 3) dTold_mayTake_5 (by decide) ?_
  refine a_icmp_ltN (tgt := 11) dTold_mayTake_6 (by decide) (by omega) (by omega) (fun _ => ?_) (fun c => False.elim (by omega))
  refine a_iload_n 2 dTold_mayTake_11 rfl rfl ?_
  refine a_iconst (v := -1) dTold_mayTake_12 (by decide) ?_
  refine a_icmp_ne (tgt := 34) dTold_mayTake_13 (by decide) (fun c => False.elim (c rfl)) (fun _ => ?_)
  refine a_aload_n 0 dTold_mayTake_16 rfl rfl ?_
  refine a_geta (r := 3) dTold_mayTake_17 fl9_19 rfl ly_1 (by omega) (rf_1_4 hR) ?_
  refine a_iload_n 1 dTold_mayTake_20 rfl rfl ?_
  refine a_ialdN (a := 2) dTold_mayTake_21 ly_3 (by omega) (by omega) (by decide) ?_
  rw [show I 3 2 = I 3 2 from rfl]
  refine a_iconstN (a := 2) dTold_mayTake_22 (by decide) ?_
  refine a_icmp_ge (tgt := 30) dTold_mayTake_23 (by decide) (fun c => False.elim (Int32.not_lt.mpr c h)) (fun _ => ?_)
  refine a_iconstN (a := 1) dTold_mayTake_26 (by decide) ?_
  refine a_goto (tgt := 40) dTold_mayTake_27 (by decide) ?_
  exact a_zret dTold_mayTake_40 rfl (by rfl) ⟨rfl, rfl, rfl, rfl⟩
theorem c_may2n0 {S : Nat × (Nat → Int32)} {d n : Nat} {I : mI} {J : mJ} {R : mR} (hn : 122 ≤ n) (hR : m_fin R) (h : ¬ I 3 2 < nI 2)  : RUN S (d + 1) YTold_mayTake [.ref 1, .int (nI 2), .int (-1)] I J R n (some (.int (nI 0))) I J R n := by
  show AW S _ YTold_mayTake n n _ 0 [(0, .ref 1), (1, .int (nI 2)), (2, .int (-1))] [] I J R n
  refine a_iload_n 1 dTold_mayTake_0 rfl rfl ?_
  refine a_if_lt (tgt := 9) dTold_mayTake_1 (by decide) (fun c => False.elim (nI_pos (by decide) c)) (fun _ => ?_)
  refine a_iload_n 1 dTold_mayTake_4 rfl rfl ?_
  refine a_iconstN (a := 3) dTold_mayTake_5 (by decide) ?_
  refine a_icmp_ltN (tgt := 11) dTold_mayTake_6 (by decide) (by omega) (by omega) (fun _ => ?_) (fun c => False.elim (by omega))
  refine a_iload_n 2 dTold_mayTake_11 rfl rfl ?_
  refine a_iconst (v := -1) dTold_mayTake_12 (by decide) ?_
  refine a_icmp_ne (tgt := 34) dTold_mayTake_13 (by decide) (fun c => False.elim (c rfl)) (fun _ => ?_)
  refine a_aload_n 0 dTold_mayTake_16 rfl rfl ?_
  refine a_geta (r := 3) dTold_mayTake_17 fl9_19 rfl ly_1 (by omega) (rf_1_4 hR) ?_
  refine a_iload_n 1 dTold_mayTake_20 rfl rfl ?_
  refine a_ialdN (a := 2) dTold_mayTake_21 ly_3 (by omega) (by omega) (by decide) ?_
  rw [show I 3 2 = I 3 2 from rfl]
  refine a_iconstN (a := 2) dTold_mayTake_22 (by decide) ?_
  refine a_icmp_ge (tgt := 30) dTold_mayTake_23 (by decide) (fun _ => ?_) (fun c => False.elim (h (Int32.not_le.mp c)))
  refine a_iconstN (a := 0) dTold_mayTake_30 (by decide) ?_
  refine a_goto (tgt := 40) dTold_mayTake_31 (by decide) ?_
  exact a_zret dTold_mayTake_40 rfl (by rfl) ⟨rfl, rfl, rfl, rfl⟩
theorem c_may2o {S : Nat × (Nat → Int32)} {d n : Nat} {I : mI} {J : mJ} {R : mR} (hn : 122 ≤ n) (hR : m_fin R) {y : Int32} (hy : ¬ y = -1)  : RUN S (d + 1) YTold_mayTake [.ref 1, .int (nI 2), .int y] I J R n (some (.int (f_of y (I 3 2)))) I J R n := by
  show AW S _ YTold_mayTake n n _ 0 [(0, .ref 1), (1, .int (nI 2)), (2, .int y)] [] I J R n
  refine a_iload_n 1 dTold_mayTake_0 rfl rfl ?_
  refine a_if_lt (tgt := 9) dTold_mayTake_1 (by decide) (fun c => False.elim (nI_pos (by decide) c)) (fun _ => ?_)
  refine a_iload_n 1 dTold_mayTake_4 rfl rfl ?_
  refine a_iconstN (a := 3) dTold_mayTake_5 (by decide) ?_
  refine a_icmp_ltN (tgt := 11) dTold_mayTake_6 (by decide) (by omega) (by omega) (fun _ => ?_) (fun c => False.elim (by omega))
  refine a_iload_n 2 dTold_mayTake_11 rfl rfl ?_
  refine a_iconst (v := -1) dTold_mayTake_12 (by decide) ?_
  refine a_icmp_ne (tgt := 34) dTold_mayTake_13 (by decide) (fun _ => ?_) (fun c => False.elim (hy c))
  refine a_aload_n 0 dTold_mayTake_34 rfl rfl ?_
  refine a_iload_n 1 dTold_mayTake_35 rfl rfl ?_
  refine a_iload_n 2 dTold_mayTake_36 rfl rfl ?_
  refine a_callV (Q' := m_res (some (.int (f_of y (I 3 2)))) I J R) (as := [.int (nI 2), .int y]) (st := []) dTold_mayTake_37 ml9_66 rfl (Nat.le_of_ble_eq_true rfl) ly_1 rfl rfl (by decide) (by omega) (Nat.le_of_ble_eq_true rfl) rfl (Nat.le_refl _) (Nat.le_refl _) (c_Told_has hn hR (by decide)) (m_go ?_)
  show AW _ _ _ _ _ _ _ _ [.int (f_of y (I 3 2))] _ _ _ _
  exact a_zret dTold_mayTake_40 rfl (m_nz (f_of_01 _ _)) ⟨rfl, rfl, rfl, rfl⟩
theorem c_mayB1 {S : Nat × (Nat → Int32)} {d n : Nat} {I : mI} {J : mJ} {R : mR} (hn : 122 ≤ n) (hR : m_fin R) {x y : Int32} (h : x < 0)  : RUN S (d + 1) YTold_mayTake [.ref 1, .int x, .int y] I J R n (some (.int (nI 0))) I J R n := by
  show AW S _ YTold_mayTake n n _ 0 [(0, .ref 1), (1, .int x), (2, .int y)] [] I J R n
  refine a_iload_n 1 dTold_mayTake_0 rfl rfl ?_
  refine a_if_lt (tgt := 9) dTold_mayTake_1 (by decide) (fun _ => ?_) (fun c => False.elim (c h))
  refine a_iconstN (a := 0) dTold_mayTake_9 (by decide) ?_
  exact a_zret dTold_mayTake_10 rfl (by rfl) ⟨rfl, rfl, rfl, rfl⟩
theorem c_mayB2 {S : Nat × (Nat → Int32)} {d n : Nat} {I : mI} {J : mJ} {R : mR} (hn : 122 ≤ n) (hR : m_fin R) {x y : Int32} (h : ¬ x < 0) (h3 : ¬ x < nI 3)  : RUN S (d + 1) YTold_mayTake [.ref 1, .int x, .int y] I J R n (some (.int (nI 0))) I J R n := by
  show AW S _ YTold_mayTake n n _ 0 [(0, .ref 1), (1, .int x), (2, .int y)] [] I J R n
  refine a_iload_n 1 dTold_mayTake_0 rfl rfl ?_
  refine a_if_lt (tgt := 9) dTold_mayTake_1 (by decide) (fun c => False.elim (h c)) (fun _ => ?_)
  refine a_iload_n 1 dTold_mayTake_4 rfl rfl ?_
  refine a_iconstN (a := 3) dTold_mayTake_5 (by decide) ?_
  refine a_icmp_lt (tgt := 11) dTold_mayTake_6 (by decide) (fun c => False.elim (h3 c)) (fun _ => ?_)
  refine a_iconstN (a := 0) dTold_mayTake_9 (by decide) ?_
  exact a_zret dTold_mayTake_10 rfl (by rfl) ⟨rfl, rfl, rfl, rfl⟩
theorem c_take00n {S : Nat × (Nat → Int32)} {d n : Nat} {I : mI} {J : mJ} {R : mR} (hn : 122 ≤ n) (hR : m_fin R) (h3 : I 3 0 = nI 0)  : RUN S (d + 2) YTold_take [.ref 1, .int (nI 0), .int (-1), .ref 40] I J R n (some (.int (nI 0))) (cpB (m_up I 3 0 (nI 1)) 41 5 cplOffice) J R n := by
  show AW S _ YTold_take n n _ 0 [(0, .ref 1), (1, .int (nI 0)), (2, .int (-1)), (3, .ref 40)] [] I J R n
  refine a_aload_n 0 dTold_take_0 rfl rfl ?_
  refine a_iload_n 1 dTold_take_1 rfl rfl ?_
  refine a_iload_n 2 dTold_take_2 rfl rfl ?_
  refine a_callV (Q' := m_res (some (.int (nI 1))) I J R) (as := [.int (nI 0), .int (-1)]) (st := []) dTold_take_3 ml9_70 rfl (Nat.le_of_ble_eq_true rfl) ly_1 rfl rfl (by decide) (by omega) (Nat.le_of_ble_eq_true rfl) rfl (Nat.le_refl _) (Nat.le_refl _) (c_may0n1 hn hR (by rw [h3]; decide)) (m_go ?_)
  show AW _ _ _ _ _ _ _ _ [.int (nI 1)] _ _ _ _
  refine a_if_ne (tgt := 12) dTold_take_6 (by decide) (fun _ => ?_) (fun c => False.elim (absurd c (by decide)))
  refine a_iload_n 2 dTold_take_12 rfl rfl ?_
  refine a_iconst (v := -1) dTold_take_13 (by decide) ?_
  refine a_icmp_ne (tgt := 26) dTold_take_14 (by decide) (fun c => False.elim (c rfl)) (fun _ => ?_)
  refine a_aload_n 0 dTold_take_17 rfl rfl ?_
  refine a_geta (r := 3) dTold_take_18 fl9_19 rfl ly_1 (by omega) (rf_1_4 hR) ?_
  refine a_iload_n 1 dTold_take_21 rfl rfl ?_
  refine a_ialdN (a := 0) dTold_take_22 ly_3 (by omega) (by omega) (by decide) ?_
  rw [show I 3 0 = I 3 0 from rfl]
  rw [show (I 3 0) = (nI 0) from h3]
  refine a_goto (tgt := 27) dTold_take_23 (by decide) ?_
  refine a_istore (lv' := [(4, .int (nI 0)), (0, .ref 1), (1, .int (nI 0)), (2, .int (-1)), (3, .ref 40)]) dTold_take_27 (by decide) rfl ?_
  refine a_iload_n 3 dTold_take_29 rfl rfl ?_
  refine a_iconst (v := -1) dTold_take_30 (by decide) ?_
  refine a_icmp_ne (tgt := 44) dTold_take_31 (by decide) (fun c => False.elim (c rfl)) (fun _ => ?_)
  refine a_aload_n 1 dTold_take_34 rfl rfl ?_
  refine a_geta (r := 3) dTold_take_35 fl9_19 rfl ly_1 (by omega) (rf_1_4 hR) ?_
  refine a_iload_n 2 dTold_take_38 rfl rfl ?_
  refine a_dup2 dTold_take_39 rfl rfl ?_
  refine a_ialdN (a := 0) dTold_take_40 ly_3 (by omega) (by omega) (by decide) ?_
  rw [show I 3 0 = I 3 0 from rfl]
  rw [show (I 3 0) = (nI 0) from h3]
  refine a_iconstN (a := 1) dTold_take_41 (by decide) ?_
  refine a_iaddN (a := 0) (b := 1) dTold_take_42 ?_
  refine a_iastN (a := 0) dTold_take_43 ly_3 (by omega) (by omega) (by decide) ?_
  refine a_iload_n 2 dTold_take_44 rfl rfl ?_
  refine a_if_ne (tgt := 65) dTold_take_45 (by decide) (fun c => False.elim (c rfl)) (fun _ => ?_)
  refine a_aload_n 1 dTold_take_48 rfl rfl ?_
  refine a_geta (r := 4) dTold_take_49 fl9_26 rfl ly_1 (by omega) (rf_1_5 hR) ?_
  refine a_iload 0 dTold_take_52 rfl ?_
  refine a_aaldN2 (r := 5) dTold_take_54 ly_4 (by omega) (by omega) (by omega) (by omega) (by decide) (hR (4, 0, 5) (by decide +kernel)) ?_
  refine a_aload_n 4 dTold_take_55 rfl rfl ?_
  refine a_geta (r := 41) dTold_take_56 fl9_73 rfl ly_40 (by omega) (rf_40_0 hR) ?_
  refine a_callV (Q' := m_res none (cpB (m_up I 3 0 (nI (0 + 1))) 41 5 cplOffice) J R) (as := [.ref 41]) (st := []) dTold_take_59 ml9_56 rfl (Nat.le_of_ble_eq_true rfl) ly_5 rfl rfl (by decide) (by omega) (Nat.le_of_ble_eq_true rfl) rfl (Nat.le_refl _) (Nat.le_refl _) (c_Office_copyFrom (S := S) (d := d) (n := n) (J := J) (R := R) (I := (m_up I 3 0 (nI (0 + 1)))) (o := 5) (p := 41) (by decide) (offF hR (by decide +kernel)) (by omega) (by decide) (offF hR (by decide +kernel)) (by omega) (by decide)) (m_go ?_)
  show AW _ _ _ _ _ _ _ _ [] _ _ _ _
  refine a_goto (tgt := 101) dTold_take_62 (by decide) ?_
  refine a_iload 0 dTold_take_101 rfl ?_
  exact a_iret dTold_take_103 rfl ⟨rfl, rfl, rfl, rfl⟩
theorem c_take00o {S : Nat × (Nat → Int32)} {d n : Nat} {I : mI} {J : mJ} {R : mR} (hn : 122 ≤ n) (hR : m_fin R) (h1 : f_of (nI 0) (I 3 0) = 1)  : RUN S (d + 2) YTold_take [.ref 1, .int (nI 0), .int (nI 0), .ref 40] I J R n (some (.int (nI 0))) (cpB I 41 5 cplOffice) J R n := by
  show AW S _ YTold_take n n _ 0 [(0, .ref 1), (1, .int (nI 0)), (2, .int (nI 0)), (3, .ref 40)] [] I J R n
  refine a_aload_n 0 dTold_take_0 rfl rfl ?_
  refine a_iload_n 1 dTold_take_1 rfl rfl ?_
  refine a_iload_n 2 dTold_take_2 rfl rfl ?_
  refine a_callV (Q' := m_res (some (.int 1)) I J R) (as := [.int (nI 0), .int (nI 0)]) (st := []) dTold_take_3 ml9_70 rfl (Nat.le_of_ble_eq_true rfl) ly_1 rfl rfl (by decide) (by omega) (Nat.le_of_ble_eq_true rfl) rfl (Nat.le_refl _) (Nat.le_refl _) (by have h := c_may0o (S := S) (d := d) (n := n) (I := I) (J := J) (R := R) hn hR (y := nI 0) (by decide); rw [h1] at h; exact h) (m_go ?_)
  show AW _ _ _ _ _ _ _ _ [.int 1] _ _ _ _
  refine a_if_ne (tgt := 12) dTold_take_6 (by decide) (fun _ => ?_) (fun c => False.elim (absurd c (by decide)))
  refine a_iload_n 2 dTold_take_12 rfl rfl ?_
  refine a_iconst (v := -1) dTold_take_13 (by decide) ?_
  refine a_icmp_ne (tgt := 26) dTold_take_14 (by decide) (fun _ => ?_) (fun c => False.elim (absurd c (by decide)))
  refine a_iload_n 2 dTold_take_26 rfl rfl ?_
  refine a_istore (lv' := [(4, .int (nI 0)), (0, .ref 1), (1, .int (nI 0)), (2, .int (nI 0)), (3, .ref 40)]) dTold_take_27 (by decide) rfl ?_
  refine a_iload_n 3 dTold_take_29 rfl rfl ?_
  refine a_iconst (v := -1) dTold_take_30 (by decide) ?_
  refine a_icmp_ne (tgt := 44) dTold_take_31 (by decide) (fun _ => ?_) (fun c => False.elim (absurd c (by decide)))
  refine a_iload_n 2 dTold_take_44 rfl rfl ?_
  refine a_if_ne (tgt := 65) dTold_take_45 (by decide) (fun c => False.elim (c rfl)) (fun _ => ?_)
  refine a_aload_n 1 dTold_take_48 rfl rfl ?_
  refine a_geta (r := 4) dTold_take_49 fl9_26 rfl ly_1 (by omega) (rf_1_5 hR) ?_
  refine a_iload 0 dTold_take_52 rfl ?_
  refine a_aaldN2 (r := 5) dTold_take_54 ly_4 (by omega) (by omega) (by omega) (by omega) (by decide) (hR (4, 0, 5) (by decide +kernel)) ?_
  refine a_aload_n 4 dTold_take_55 rfl rfl ?_
  refine a_geta (r := 41) dTold_take_56 fl9_73 rfl ly_40 (by omega) (rf_40_0 hR) ?_
  refine a_callV (Q' := m_res none (cpB I 41 5 cplOffice) J R) (as := [.ref 41]) (st := []) dTold_take_59 ml9_56 rfl (Nat.le_of_ble_eq_true rfl) ly_5 rfl rfl (by decide) (by omega) (Nat.le_of_ble_eq_true rfl) rfl (Nat.le_refl _) (Nat.le_refl _) (c_Office_copyFrom (S := S) (d := d) (n := n) (J := J) (R := R) (I := I) (o := 5) (p := 41) (by decide) (offF hR (by decide +kernel)) (by omega) (by decide) (offF hR (by decide +kernel)) (by omega) (by decide)) (m_go ?_)
  show AW _ _ _ _ _ _ _ _ [] _ _ _ _
  refine a_goto (tgt := 101) dTold_take_62 (by decide) ?_
  refine a_iload 0 dTold_take_101 rfl ?_
  exact a_iret dTold_take_103 rfl ⟨rfl, rfl, rfl, rfl⟩
theorem c_take01n {S : Nat × (Nat → Int32)} {d n : Nat} {I : mI} {J : mJ} {R : mR} (hn : 122 ≤ n) (hR : m_fin R) (h3 : I 3 0 = nI 1)  : RUN S (d + 2) YTold_take [.ref 1, .int (nI 0), .int (-1), .ref 40] I J R n (some (.int (nI 1))) (cpB (m_up I 3 0 (nI 2)) 41 14 cplOffice) J R n := by
  show AW S _ YTold_take n n _ 0 [(0, .ref 1), (1, .int (nI 0)), (2, .int (-1)), (3, .ref 40)] [] I J R n
  refine a_aload_n 0 dTold_take_0 rfl rfl ?_
  refine a_iload_n 1 dTold_take_1 rfl rfl ?_
  refine a_iload_n 2 dTold_take_2 rfl rfl ?_
  refine a_callV (Q' := m_res (some (.int (nI 1))) I J R) (as := [.int (nI 0), .int (-1)]) (st := []) dTold_take_3 ml9_70 rfl (Nat.le_of_ble_eq_true rfl) ly_1 rfl rfl (by decide) (by omega) (Nat.le_of_ble_eq_true rfl) rfl (Nat.le_refl _) (Nat.le_refl _) (c_may0n1 hn hR (by rw [h3]; decide)) (m_go ?_)
  show AW _ _ _ _ _ _ _ _ [.int (nI 1)] _ _ _ _
  refine a_if_ne (tgt := 12) dTold_take_6 (by decide) (fun _ => ?_) (fun c => False.elim (absurd c (by decide)))
  refine a_iload_n 2 dTold_take_12 rfl rfl ?_
  refine a_iconst (v := -1) dTold_take_13 (by decide) ?_
  refine a_icmp_ne (tgt := 26) dTold_take_14 (by decide) (fun c => False.elim (c rfl)) (fun _ => ?_)
  refine a_aload_n 0 dTold_take_17 rfl rfl ?_
  refine a_geta (r := 3) dTold_take_18 fl9_19 rfl ly_1 (by omega) (rf_1_4 hR) ?_
  refine a_iload_n 1 dTold_take_21 rfl rfl ?_
  refine a_ialdN (a := 0) dTold_take_22 ly_3 (by omega) (by omega) (by decide) ?_
  rw [show I 3 0 = I 3 0 from rfl]
  rw [show (I 3 0) = (nI 1) from h3]
  refine a_goto (tgt := 27) dTold_take_23 (by decide) ?_
  refine a_istore (lv' := [(4, .int (nI 1)), (0, .ref 1), (1, .int (nI 0)), (2, .int (-1)), (3, .ref 40)]) dTold_take_27 (by decide) rfl ?_
  refine a_iload_n 3 dTold_take_29 rfl rfl ?_
  refine a_iconst (v := -1) dTold_take_30 (by decide) ?_
  refine a_icmp_ne (tgt := 44) dTold_take_31 (by decide) (fun c => False.elim (c rfl)) (fun _ => ?_)
  refine a_aload_n 1 dTold_take_34 rfl rfl ?_
  refine a_geta (r := 3) dTold_take_35 fl9_19 rfl ly_1 (by omega) (rf_1_4 hR) ?_
  refine a_iload_n 2 dTold_take_38 rfl rfl ?_
  refine a_dup2 dTold_take_39 rfl rfl ?_
  refine a_ialdN (a := 0) dTold_take_40 ly_3 (by omega) (by omega) (by decide) ?_
  rw [show I 3 0 = I 3 0 from rfl]
  rw [show (I 3 0) = (nI 1) from h3]
  refine a_iconstN (a := 1) dTold_take_41 (by decide) ?_
  refine a_iaddN (a := 1) (b := 1) dTold_take_42 ?_
  refine a_iastN (a := 0) dTold_take_43 ly_3 (by omega) (by omega) (by decide) ?_
  refine a_iload_n 2 dTold_take_44 rfl rfl ?_
  refine a_if_ne (tgt := 65) dTold_take_45 (by decide) (fun c => False.elim (c rfl)) (fun _ => ?_)
  refine a_aload_n 1 dTold_take_48 rfl rfl ?_
  refine a_geta (r := 4) dTold_take_49 fl9_26 rfl ly_1 (by omega) (rf_1_5 hR) ?_
  refine a_iload 0 dTold_take_52 rfl ?_
  refine a_aaldN2 (r := 14) dTold_take_54 ly_4 (by omega) (by omega) (by omega) (by omega) (by decide) (hR (4, 1, 14) (by decide +kernel)) ?_
  refine a_aload_n 4 dTold_take_55 rfl rfl ?_
  refine a_geta (r := 41) dTold_take_56 fl9_73 rfl ly_40 (by omega) (rf_40_0 hR) ?_
  refine a_callV (Q' := m_res none (cpB (m_up I 3 0 (nI (1 + 1))) 41 14 cplOffice) J R) (as := [.ref 41]) (st := []) dTold_take_59 ml9_56 rfl (Nat.le_of_ble_eq_true rfl) ly_14 rfl rfl (by decide) (by omega) (Nat.le_of_ble_eq_true rfl) rfl (Nat.le_refl _) (Nat.le_refl _) (c_Office_copyFrom (S := S) (d := d) (n := n) (J := J) (R := R) (I := (m_up I 3 0 (nI (1 + 1)))) (o := 14) (p := 41) (by decide) (offF hR (by decide +kernel)) (by omega) (by decide) (offF hR (by decide +kernel)) (by omega) (by decide)) (m_go ?_)
  show AW _ _ _ _ _ _ _ _ [] _ _ _ _
  refine a_goto (tgt := 101) dTold_take_62 (by decide) ?_
  refine a_iload 0 dTold_take_101 rfl ?_
  exact a_iret dTold_take_103 rfl ⟨rfl, rfl, rfl, rfl⟩
theorem c_take01o {S : Nat × (Nat → Int32)} {d n : Nat} {I : mI} {J : mJ} {R : mR} (hn : 122 ≤ n) (hR : m_fin R) (h1 : f_of (nI 1) (I 3 0) = 1)  : RUN S (d + 2) YTold_take [.ref 1, .int (nI 0), .int (nI 1), .ref 40] I J R n (some (.int (nI 1))) (cpB I 41 14 cplOffice) J R n := by
  show AW S _ YTold_take n n _ 0 [(0, .ref 1), (1, .int (nI 0)), (2, .int (nI 1)), (3, .ref 40)] [] I J R n
  refine a_aload_n 0 dTold_take_0 rfl rfl ?_
  refine a_iload_n 1 dTold_take_1 rfl rfl ?_
  refine a_iload_n 2 dTold_take_2 rfl rfl ?_
  refine a_callV (Q' := m_res (some (.int 1)) I J R) (as := [.int (nI 0), .int (nI 1)]) (st := []) dTold_take_3 ml9_70 rfl (Nat.le_of_ble_eq_true rfl) ly_1 rfl rfl (by decide) (by omega) (Nat.le_of_ble_eq_true rfl) rfl (Nat.le_refl _) (Nat.le_refl _) (by have h := c_may0o (S := S) (d := d) (n := n) (I := I) (J := J) (R := R) hn hR (y := nI 1) (by decide); rw [h1] at h; exact h) (m_go ?_)
  show AW _ _ _ _ _ _ _ _ [.int 1] _ _ _ _
  refine a_if_ne (tgt := 12) dTold_take_6 (by decide) (fun _ => ?_) (fun c => False.elim (absurd c (by decide)))
  refine a_iload_n 2 dTold_take_12 rfl rfl ?_
  refine a_iconst (v := -1) dTold_take_13 (by decide) ?_
  refine a_icmp_ne (tgt := 26) dTold_take_14 (by decide) (fun _ => ?_) (fun c => False.elim (absurd c (by decide)))
  refine a_iload_n 2 dTold_take_26 rfl rfl ?_
  refine a_istore (lv' := [(4, .int (nI 1)), (0, .ref 1), (1, .int (nI 0)), (2, .int (nI 1)), (3, .ref 40)]) dTold_take_27 (by decide) rfl ?_
  refine a_iload_n 3 dTold_take_29 rfl rfl ?_
  refine a_iconst (v := -1) dTold_take_30 (by decide) ?_
  refine a_icmp_ne (tgt := 44) dTold_take_31 (by decide) (fun _ => ?_) (fun c => False.elim (absurd c (by decide)))
  refine a_iload_n 2 dTold_take_44 rfl rfl ?_
  refine a_if_ne (tgt := 65) dTold_take_45 (by decide) (fun c => False.elim (c rfl)) (fun _ => ?_)
  refine a_aload_n 1 dTold_take_48 rfl rfl ?_
  refine a_geta (r := 4) dTold_take_49 fl9_26 rfl ly_1 (by omega) (rf_1_5 hR) ?_
  refine a_iload 0 dTold_take_52 rfl ?_
  refine a_aaldN2 (r := 14) dTold_take_54 ly_4 (by omega) (by omega) (by omega) (by omega) (by decide) (hR (4, 1, 14) (by decide +kernel)) ?_
  refine a_aload_n 4 dTold_take_55 rfl rfl ?_
  refine a_geta (r := 41) dTold_take_56 fl9_73 rfl ly_40 (by omega) (rf_40_0 hR) ?_
  refine a_callV (Q' := m_res none (cpB I 41 14 cplOffice) J R) (as := [.ref 41]) (st := []) dTold_take_59 ml9_56 rfl (Nat.le_of_ble_eq_true rfl) ly_14 rfl rfl (by decide) (by omega) (Nat.le_of_ble_eq_true rfl) rfl (Nat.le_refl _) (Nat.le_refl _) (c_Office_copyFrom (S := S) (d := d) (n := n) (J := J) (R := R) (I := I) (o := 14) (p := 41) (by decide) (offF hR (by decide +kernel)) (by omega) (by decide) (offF hR (by decide +kernel)) (by omega) (by decide)) (m_go ?_)
  show AW _ _ _ _ _ _ _ _ [] _ _ _ _
  refine a_goto (tgt := 101) dTold_take_62 (by decide) ?_
  refine a_iload 0 dTold_take_101 rfl ?_
  exact a_iret dTold_take_103 rfl ⟨rfl, rfl, rfl, rfl⟩
theorem c_take10n {S : Nat × (Nat → Int32)} {d n : Nat} {I : mI} {J : mJ} {R : mR} (hn : 122 ≤ n) (hR : m_fin R) (h3 : I 3 1 = nI 0)  : RUN S (d + 2) YTold_take [.ref 1, .int (nI 1), .int (-1), .ref 40] I J R n (some (.int (nI 0))) (cpB (m_up I 3 1 (nI 1)) 50 24 cplWeek) J R n := by
  show AW S _ YTold_take n n _ 0 [(0, .ref 1), (1, .int (nI 1)), (2, .int (-1)), (3, .ref 40)] [] I J R n
  refine a_aload_n 0 dTold_take_0 rfl rfl ?_
  refine a_iload_n 1 dTold_take_1 rfl rfl ?_
  refine a_iload_n 2 dTold_take_2 rfl rfl ?_
  refine a_callV (Q' := m_res (some (.int (nI 1))) I J R) (as := [.int (nI 1), .int (-1)]) (st := []) dTold_take_3 ml9_70 rfl (Nat.le_of_ble_eq_true rfl) ly_1 rfl rfl (by decide) (by omega) (Nat.le_of_ble_eq_true rfl) rfl (Nat.le_refl _) (Nat.le_refl _) (c_may1n1 hn hR (by rw [h3]; decide)) (m_go ?_)
  show AW _ _ _ _ _ _ _ _ [.int (nI 1)] _ _ _ _
  refine a_if_ne (tgt := 12) dTold_take_6 (by decide) (fun _ => ?_) (fun c => False.elim (absurd c (by decide)))
  refine a_iload_n 2 dTold_take_12 rfl rfl ?_
  refine a_iconst (v := -1) dTold_take_13 (by decide) ?_
  refine a_icmp_ne (tgt := 26) dTold_take_14 (by decide) (fun c => False.elim (c rfl)) (fun _ => ?_)
  refine a_aload_n 0 dTold_take_17 rfl rfl ?_
  refine a_geta (r := 3) dTold_take_18 fl9_19 rfl ly_1 (by omega) (rf_1_4 hR) ?_
  refine a_iload_n 1 dTold_take_21 rfl rfl ?_
  refine a_ialdN (a := 1) dTold_take_22 ly_3 (by omega) (by omega) (by decide) ?_
  rw [show I 3 1 = I 3 1 from rfl]
  rw [show (I 3 1) = (nI 0) from h3]
  refine a_goto (tgt := 27) dTold_take_23 (by decide) ?_
  refine a_istore (lv' := [(4, .int (nI 0)), (0, .ref 1), (1, .int (nI 1)), (2, .int (-1)), (3, .ref 40)]) dTold_take_27 (by decide) rfl ?_
  refine a_iload_n 3 dTold_take_29 rfl rfl ?_
  refine a_iconst (v := -1) dTold_take_30 (by decide) ?_
  refine a_icmp_ne (tgt := 44) dTold_take_31 (by decide) (fun c => False.elim (c rfl)) (fun _ => ?_)
  refine a_aload_n 1 dTold_take_34 rfl rfl ?_
  refine a_geta (r := 3) dTold_take_35 fl9_19 rfl ly_1 (by omega) (rf_1_4 hR) ?_
  refine a_iload_n 2 dTold_take_38 rfl rfl ?_
  refine a_dup2 dTold_take_39 rfl rfl ?_
  refine a_ialdN (a := 1) dTold_take_40 ly_3 (by omega) (by omega) (by decide) ?_
  rw [show I 3 1 = I 3 1 from rfl]
  rw [show (I 3 1) = (nI 0) from h3]
  refine a_iconstN (a := 1) dTold_take_41 (by decide) ?_
  refine a_iaddN (a := 0) (b := 1) dTold_take_42 ?_
  refine a_iastN (a := 1) dTold_take_43 ly_3 (by omega) (by omega) (by decide) ?_
  refine a_iload_n 2 dTold_take_44 rfl rfl ?_
  refine a_if_ne (tgt := 65) dTold_take_45 (by decide) (fun _ => ?_) (fun c => False.elim (absurd c (by decide)))
  refine a_iload_n 2 dTold_take_65 rfl rfl ?_
  refine a_iconstN (a := 1) dTold_take_66 (by decide) ?_
  refine a_icmp_neN (tgt := 87) dTold_take_67 (by decide) (by omega) (by omega) (fun c => False.elim (by omega)) (fun _ => ?_)
  refine a_aload_n 1 dTold_take_70 rfl rfl ?_
  refine a_geta (r := 23) dTold_take_71 fl9_33 rfl ly_1 (by omega) (rf_1_6 hR) ?_
  refine a_iload 0 dTold_take_74 rfl ?_
  refine a_aaldN2 (r := 24) dTold_take_76 ly_23 (by omega) (by omega) (by omega) (by omega) (by decide) (hR (23, 0, 24) (by decide +kernel)) ?_
  refine a_aload_n 4 dTold_take_77 rfl rfl ?_
  refine a_geta (r := 50) dTold_take_78 fl9_79 rfl ly_40 (by omega) (rf_40_1 hR) ?_
  refine a_callV (Q' := m_res none (cpB (m_up I 3 1 (nI (0 + 1))) 50 24 cplWeek) J R) (as := [.ref 50]) (st := []) dTold_take_81 ml9_60 rfl (Nat.le_of_ble_eq_true rfl) ly_24 rfl rfl (by decide) (by omega) (Nat.le_of_ble_eq_true rfl) rfl (Nat.le_refl _) (Nat.le_refl _) (c_Week_copyFrom (S := S) (d := d) (n := n) (J := J) (R := R) (I := (m_up I 3 1 (nI (0 + 1)))) (o := 24) (p := 50) (by decide) (wkF hR (by decide +kernel)) (by omega) (by decide) (wkF hR (by decide +kernel)) (by omega) (by decide)) (m_go ?_)
  show AW _ _ _ _ _ _ _ _ [] _ _ _ _
  refine a_goto (tgt := 101) dTold_take_84 (by decide) ?_
  refine a_iload 0 dTold_take_101 rfl ?_
  exact a_iret dTold_take_103 rfl ⟨rfl, rfl, rfl, rfl⟩
theorem c_take10o {S : Nat × (Nat → Int32)} {d n : Nat} {I : mI} {J : mJ} {R : mR} (hn : 122 ≤ n) (hR : m_fin R) (h1 : f_of (nI 0) (I 3 1) = 1)  : RUN S (d + 2) YTold_take [.ref 1, .int (nI 1), .int (nI 0), .ref 40] I J R n (some (.int (nI 0))) (cpB I 50 24 cplWeek) J R n := by
  show AW S _ YTold_take n n _ 0 [(0, .ref 1), (1, .int (nI 1)), (2, .int (nI 0)), (3, .ref 40)] [] I J R n
  refine a_aload_n 0 dTold_take_0 rfl rfl ?_
  refine a_iload_n 1 dTold_take_1 rfl rfl ?_
  refine a_iload_n 2 dTold_take_2 rfl rfl ?_
  refine a_callV (Q' := m_res (some (.int 1)) I J R) (as := [.int (nI 1), .int (nI 0)]) (st := []) dTold_take_3 ml9_70 rfl (Nat.le_of_ble_eq_true rfl) ly_1 rfl rfl (by decide) (by omega) (Nat.le_of_ble_eq_true rfl) rfl (Nat.le_refl _) (Nat.le_refl _) (by have h := c_may1o (S := S) (d := d) (n := n) (I := I) (J := J) (R := R) hn hR (y := nI 0) (by decide); rw [h1] at h; exact h) (m_go ?_)
  show AW _ _ _ _ _ _ _ _ [.int 1] _ _ _ _
  refine a_if_ne (tgt := 12) dTold_take_6 (by decide) (fun _ => ?_) (fun c => False.elim (absurd c (by decide)))
  refine a_iload_n 2 dTold_take_12 rfl rfl ?_
  refine a_iconst (v := -1) dTold_take_13 (by decide) ?_
  refine a_icmp_ne (tgt := 26) dTold_take_14 (by decide) (fun _ => ?_) (fun c => False.elim (absurd c (by decide)))
  refine a_iload_n 2 dTold_take_26 rfl rfl ?_
  refine a_istore (lv' := [(4, .int (nI 0)), (0, .ref 1), (1, .int (nI 1)), (2, .int (nI 0)), (3, .ref 40)]) dTold_take_27 (by decide) rfl ?_
  refine a_iload_n 3 dTold_take_29 rfl rfl ?_
  refine a_iconst (v := -1) dTold_take_30 (by decide) ?_
  refine a_icmp_ne (tgt := 44) dTold_take_31 (by decide) (fun _ => ?_) (fun c => False.elim (absurd c (by decide)))
  refine a_iload_n 2 dTold_take_44 rfl rfl ?_
  refine a_if_ne (tgt := 65) dTold_take_45 (by decide) (fun _ => ?_) (fun c => False.elim (absurd c (by decide)))
  refine a_iload_n 2 dTold_take_65 rfl rfl ?_
  refine a_iconstN (a := 1) dTold_take_66 (by decide) ?_
  refine a_icmp_neN (tgt := 87) dTold_take_67 (by decide) (by omega) (by omega) (fun c => False.elim (by omega)) (fun _ => ?_)
  refine a_aload_n 1 dTold_take_70 rfl rfl ?_
  refine a_geta (r := 23) dTold_take_71 fl9_33 rfl ly_1 (by omega) (rf_1_6 hR) ?_
  refine a_iload 0 dTold_take_74 rfl ?_
  refine a_aaldN2 (r := 24) dTold_take_76 ly_23 (by omega) (by omega) (by omega) (by omega) (by decide) (hR (23, 0, 24) (by decide +kernel)) ?_
  refine a_aload_n 4 dTold_take_77 rfl rfl ?_
  refine a_geta (r := 50) dTold_take_78 fl9_79 rfl ly_40 (by omega) (rf_40_1 hR) ?_
  refine a_callV (Q' := m_res none (cpB I 50 24 cplWeek) J R) (as := [.ref 50]) (st := []) dTold_take_81 ml9_60 rfl (Nat.le_of_ble_eq_true rfl) ly_24 rfl rfl (by decide) (by omega) (Nat.le_of_ble_eq_true rfl) rfl (Nat.le_refl _) (Nat.le_refl _) (c_Week_copyFrom (S := S) (d := d) (n := n) (J := J) (R := R) (I := I) (o := 24) (p := 50) (by decide) (wkF hR (by decide +kernel)) (by omega) (by decide) (wkF hR (by decide +kernel)) (by omega) (by decide)) (m_go ?_)
  show AW _ _ _ _ _ _ _ _ [] _ _ _ _
  refine a_goto (tgt := 101) dTold_take_84 (by decide) ?_
  refine a_iload 0 dTold_take_101 rfl ?_
  exact a_iret dTold_take_103 rfl ⟨rfl, rfl, rfl, rfl⟩
theorem c_take11n {S : Nat × (Nat → Int32)} {d n : Nat} {I : mI} {J : mJ} {R : mR} (hn : 122 ≤ n) (hR : m_fin R) (h3 : I 3 1 = nI 1)  : RUN S (d + 2) YTold_take [.ref 1, .int (nI 1), .int (-1), .ref 40] I J R n (some (.int (nI 1))) (cpB (m_up I 3 1 (nI 2)) 50 28 cplWeek) J R n := by
  show AW S _ YTold_take n n _ 0 [(0, .ref 1), (1, .int (nI 1)), (2, .int (-1)), (3, .ref 40)] [] I J R n
  refine a_aload_n 0 dTold_take_0 rfl rfl ?_
  refine a_iload_n 1 dTold_take_1 rfl rfl ?_
  refine a_iload_n 2 dTold_take_2 rfl rfl ?_
  refine a_callV (Q' := m_res (some (.int (nI 1))) I J R) (as := [.int (nI 1), .int (-1)]) (st := []) dTold_take_3 ml9_70 rfl (Nat.le_of_ble_eq_true rfl) ly_1 rfl rfl (by decide) (by omega) (Nat.le_of_ble_eq_true rfl) rfl (Nat.le_refl _) (Nat.le_refl _) (c_may1n1 hn hR (by rw [h3]; decide)) (m_go ?_)
  show AW _ _ _ _ _ _ _ _ [.int (nI 1)] _ _ _ _
  refine a_if_ne (tgt := 12) dTold_take_6 (by decide) (fun _ => ?_) (fun c => False.elim (absurd c (by decide)))
  refine a_iload_n 2 dTold_take_12 rfl rfl ?_
  refine a_iconst (v := -1) dTold_take_13 (by decide) ?_
  refine a_icmp_ne (tgt := 26) dTold_take_14 (by decide) (fun c => False.elim (c rfl)) (fun _ => ?_)
  refine a_aload_n 0 dTold_take_17 rfl rfl ?_
  refine a_geta (r := 3) dTold_take_18 fl9_19 rfl ly_1 (by omega) (rf_1_4 hR) ?_
  refine a_iload_n 1 dTold_take_21 rfl rfl ?_
  refine a_ialdN (a := 1) dTold_take_22 ly_3 (by omega) (by omega) (by decide) ?_
  rw [show I 3 1 = I 3 1 from rfl]
  rw [show (I 3 1) = (nI 1) from h3]
  refine a_goto (tgt := 27) dTold_take_23 (by decide) ?_
  refine a_istore (lv' := [(4, .int (nI 1)), (0, .ref 1), (1, .int (nI 1)), (2, .int (-1)), (3, .ref 40)]) dTold_take_27 (by decide) rfl ?_
  refine a_iload_n 3 dTold_take_29 rfl rfl ?_
  refine a_iconst (v := -1) dTold_take_30 (by decide) ?_
  refine a_icmp_ne (tgt := 44) dTold_take_31 (by decide) (fun c => False.elim (c rfl)) (fun _ => ?_)
  refine a_aload_n 1 dTold_take_34 rfl rfl ?_
  refine a_geta (r := 3) dTold_take_35 fl9_19 rfl ly_1 (by omega) (rf_1_4 hR) ?_
  refine a_iload_n 2 dTold_take_38 rfl rfl ?_
  refine a_dup2 dTold_take_39 rfl rfl ?_
  refine a_ialdN (a := 1) dTold_take_40 ly_3 (by omega) (by omega) (by decide) ?_
  rw [show I 3 1 = I 3 1 from rfl]
  rw [show (I 3 1) = (nI 1) from h3]
  refine a_iconstN (a := 1) dTold_take_41 (by decide) ?_
  refine a_iaddN (a := 1) (b := 1) dTold_take_42 ?_
  refine a_iastN (a := 1) dTold_take_43 ly_3 (by omega) (by omega) (by decide) ?_
  refine a_iload_n 2 dTold_take_44 rfl rfl ?_
  refine a_if_ne (tgt := 65) dTold_take_45 (by decide) (fun _ => ?_) (fun c => False.elim (absurd c (by decide)))
  refine a_iload_n 2 dTold_take_65 rfl rfl ?_
  refine a_iconstN (a := 1) dTold_take_66 (by decide) ?_
  refine a_icmp_neN (tgt := 87) dTold_take_67 (by decide) (by omega) (by omega) (fun c => False.elim (by omega)) (fun _ => ?_)
  refine a_aload_n 1 dTold_take_70 rfl rfl ?_
  refine a_geta (r := 23) dTold_take_71 fl9_33 rfl ly_1 (by omega) (rf_1_6 hR) ?_
  refine a_iload 0 dTold_take_74 rfl ?_
  refine a_aaldN2 (r := 28) dTold_take_76 ly_23 (by omega) (by omega) (by omega) (by omega) (by decide) (hR (23, 1, 28) (by decide +kernel)) ?_
  refine a_aload_n 4 dTold_take_77 rfl rfl ?_
  refine a_geta (r := 50) dTold_take_78 fl9_79 rfl ly_40 (by omega) (rf_40_1 hR) ?_
  refine a_callV (Q' := m_res none (cpB (m_up I 3 1 (nI (1 + 1))) 50 28 cplWeek) J R) (as := [.ref 50]) (st := []) dTold_take_81 ml9_60 rfl (Nat.le_of_ble_eq_true rfl) ly_28 rfl rfl (by decide) (by omega) (Nat.le_of_ble_eq_true rfl) rfl (Nat.le_refl _) (Nat.le_refl _) (c_Week_copyFrom (S := S) (d := d) (n := n) (J := J) (R := R) (I := (m_up I 3 1 (nI (1 + 1)))) (o := 28) (p := 50) (by decide) (wkF hR (by decide +kernel)) (by omega) (by decide) (wkF hR (by decide +kernel)) (by omega) (by decide)) (m_go ?_)
  show AW _ _ _ _ _ _ _ _ [] _ _ _ _
  refine a_goto (tgt := 101) dTold_take_84 (by decide) ?_
  refine a_iload 0 dTold_take_101 rfl ?_
  exact a_iret dTold_take_103 rfl ⟨rfl, rfl, rfl, rfl⟩
theorem c_take11o {S : Nat × (Nat → Int32)} {d n : Nat} {I : mI} {J : mJ} {R : mR} (hn : 122 ≤ n) (hR : m_fin R) (h1 : f_of (nI 1) (I 3 1) = 1)  : RUN S (d + 2) YTold_take [.ref 1, .int (nI 1), .int (nI 1), .ref 40] I J R n (some (.int (nI 1))) (cpB I 50 28 cplWeek) J R n := by
  show AW S _ YTold_take n n _ 0 [(0, .ref 1), (1, .int (nI 1)), (2, .int (nI 1)), (3, .ref 40)] [] I J R n
  refine a_aload_n 0 dTold_take_0 rfl rfl ?_
  refine a_iload_n 1 dTold_take_1 rfl rfl ?_
  refine a_iload_n 2 dTold_take_2 rfl rfl ?_
  refine a_callV (Q' := m_res (some (.int 1)) I J R) (as := [.int (nI 1), .int (nI 1)]) (st := []) dTold_take_3 ml9_70 rfl (Nat.le_of_ble_eq_true rfl) ly_1 rfl rfl (by decide) (by omega) (Nat.le_of_ble_eq_true rfl) rfl (Nat.le_refl _) (Nat.le_refl _) (by have h := c_may1o (S := S) (d := d) (n := n) (I := I) (J := J) (R := R) hn hR (y := nI 1) (by decide); rw [h1] at h; exact h) (m_go ?_)
  show AW _ _ _ _ _ _ _ _ [.int 1] _ _ _ _
  refine a_if_ne (tgt := 12) dTold_take_6 (by decide) (fun _ => ?_) (fun c => False.elim (absurd c (by decide)))
  refine a_iload_n 2 dTold_take_12 rfl rfl ?_
  refine a_iconst (v := -1) dTold_take_13 (by decide) ?_
  refine a_icmp_ne (tgt := 26) dTold_take_14 (by decide) (fun _ => ?_) (fun c => False.elim (absurd c (by decide)))
  refine a_iload_n 2 dTold_take_26 rfl rfl ?_
  refine a_istore (lv' := [(4, .int (nI 1)), (0, .ref 1), (1, .int (nI 1)), (2, .int (nI 1)), (3, .ref 40)]) dTold_take_27 (by decide) rfl ?_
  refine a_iload_n 3 dTold_take_29 rfl rfl ?_
  refine a_iconst (v := -1) dTold_take_30 (by decide) ?_
  refine a_icmp_ne (tgt := 44) dTold_take_31 (by decide) (fun _ => ?_) (fun c => False.elim (absurd c (by decide)))
  refine a_iload_n 2 dTold_take_44 rfl rfl ?_
  refine a_if_ne (tgt := 65) dTold_take_45 (by decide) (fun _ => ?_) (fun c => False.elim (absurd c (by decide)))
  refine a_iload_n 2 dTold_take_65 rfl rfl ?_
  refine a_iconstN (a := 1) dTold_take_66 (by decide) ?_
  refine a_icmp_neN (tgt := 87) dTold_take_67 (by decide) (by omega) (by omega) (fun c => False.elim (by omega)) (fun _ => ?_)
  refine a_aload_n 1 dTold_take_70 rfl rfl ?_
  refine a_geta (r := 23) dTold_take_71 fl9_33 rfl ly_1 (by omega) (rf_1_6 hR) ?_
  refine a_iload 0 dTold_take_74 rfl ?_
  refine a_aaldN2 (r := 28) dTold_take_76 ly_23 (by omega) (by omega) (by omega) (by omega) (by decide) (hR (23, 1, 28) (by decide +kernel)) ?_
  refine a_aload_n 4 dTold_take_77 rfl rfl ?_
  refine a_geta (r := 50) dTold_take_78 fl9_79 rfl ly_40 (by omega) (rf_40_1 hR) ?_
  refine a_callV (Q' := m_res none (cpB I 50 28 cplWeek) J R) (as := [.ref 50]) (st := []) dTold_take_81 ml9_60 rfl (Nat.le_of_ble_eq_true rfl) ly_28 rfl rfl (by decide) (by omega) (Nat.le_of_ble_eq_true rfl) rfl (Nat.le_refl _) (Nat.le_refl _) (c_Week_copyFrom (S := S) (d := d) (n := n) (J := J) (R := R) (I := I) (o := 28) (p := 50) (by decide) (wkF hR (by decide +kernel)) (by omega) (by decide) (wkF hR (by decide +kernel)) (by omega) (by decide)) (m_go ?_)
  show AW _ _ _ _ _ _ _ _ [] _ _ _ _
  refine a_goto (tgt := 101) dTold_take_84 (by decide) ?_
  refine a_iload 0 dTold_take_101 rfl ?_
  exact a_iret dTold_take_103 rfl ⟨rfl, rfl, rfl, rfl⟩
theorem c_take20n {S : Nat × (Nat → Int32)} {d n : Nat} {I : mI} {J : mJ} {R : mR} (hn : 122 ≤ n) (hR : m_fin R) (h3 : I 3 2 = nI 0)  : RUN S (d + 2) YTold_take [.ref 1, .int (nI 2), .int (-1), .ref 40] I J R n (some (.int (nI 0))) (cpB (m_up I 3 2 (nI 1)) 54 33 cplLog) J R n := by
  show AW S _ YTold_take n n _ 0 [(0, .ref 1), (1, .int (nI 2)), (2, .int (-1)), (3, .ref 40)] [] I J R n
  refine a_aload_n 0 dTold_take_0 rfl rfl ?_
  refine a_iload_n 1 dTold_take_1 rfl rfl ?_
  refine a_iload_n 2 dTold_take_2 rfl rfl ?_
  refine a_callV (Q' := m_res (some (.int (nI 1))) I J R) (as := [.int (nI 2), .int (-1)]) (st := []) dTold_take_3 ml9_70 rfl (Nat.le_of_ble_eq_true rfl) ly_1 rfl rfl (by decide) (by omega) (Nat.le_of_ble_eq_true rfl) rfl (Nat.le_refl _) (Nat.le_refl _) (c_may2n1 hn hR (by rw [h3]; decide)) (m_go ?_)
  show AW _ _ _ _ _ _ _ _ [.int (nI 1)] _ _ _ _
  refine a_if_ne (tgt := 12) dTold_take_6 (by decide) (fun _ => ?_) (fun c => False.elim (absurd c (by decide)))
  refine a_iload_n 2 dTold_take_12 rfl rfl ?_
  refine a_iconst (v := -1) dTold_take_13 (by decide) ?_
  refine a_icmp_ne (tgt := 26) dTold_take_14 (by decide) (fun c => False.elim (c rfl)) (fun _ => ?_)
  refine a_aload_n 0 dTold_take_17 rfl rfl ?_
  refine a_geta (r := 3) dTold_take_18 fl9_19 rfl ly_1 (by omega) (rf_1_4 hR) ?_
  refine a_iload_n 1 dTold_take_21 rfl rfl ?_
  refine a_ialdN (a := 2) dTold_take_22 ly_3 (by omega) (by omega) (by decide) ?_
  rw [show I 3 2 = I 3 2 from rfl]
  rw [show (I 3 2) = (nI 0) from h3]
  refine a_goto (tgt := 27) dTold_take_23 (by decide) ?_
  refine a_istore (lv' := [(4, .int (nI 0)), (0, .ref 1), (1, .int (nI 2)), (2, .int (-1)), (3, .ref 40)]) dTold_take_27 (by decide) rfl ?_
  refine a_iload_n 3 dTold_take_29 rfl rfl ?_
  refine a_iconst (v := -1) dTold_take_30 (by decide) ?_
  refine a_icmp_ne (tgt := 44) dTold_take_31 (by decide) (fun c => False.elim (c rfl)) (fun _ => ?_)
  refine a_aload_n 1 dTold_take_34 rfl rfl ?_
  refine a_geta (r := 3) dTold_take_35 fl9_19 rfl ly_1 (by omega) (rf_1_4 hR) ?_
  refine a_iload_n 2 dTold_take_38 rfl rfl ?_
  refine a_dup2 dTold_take_39 rfl rfl ?_
  refine a_ialdN (a := 2) dTold_take_40 ly_3 (by omega) (by omega) (by decide) ?_
  rw [show I 3 2 = I 3 2 from rfl]
  rw [show (I 3 2) = (nI 0) from h3]
  refine a_iconstN (a := 1) dTold_take_41 (by decide) ?_
  refine a_iaddN (a := 0) (b := 1) dTold_take_42 ?_
  refine a_iastN (a := 2) dTold_take_43 ly_3 (by omega) (by omega) (by decide) ?_
  refine a_iload_n 2 dTold_take_44 rfl rfl ?_
  refine a_if_ne (tgt := 65) dTold_take_45 (by decide) (fun _ => ?_) (fun c => False.elim (absurd c (by decide)))
  refine a_iload_n 2 dTold_take_65 rfl rfl ?_
  refine a_iconstN (a := 1) dTold_take_66 (by decide) ?_
  refine a_icmp_neN (tgt := 87) dTold_take_67 (by decide) (by omega) (by omega) (fun _ => ?_) (fun c => False.elim (by omega))
  refine a_aload_n 1 dTold_take_87 rfl rfl ?_
  refine a_geta (r := 32) dTold_take_88 fl9_40 rfl ly_1 (by omega) (rf_1_7 hR) ?_
  refine a_iload 0 dTold_take_91 rfl ?_
  refine a_aaldN2 (r := 33) dTold_take_93 ly_32 (by omega) (by omega) (by omega) (by omega) (by decide) (hR (32, 0, 33) (by decide +kernel)) ?_
  refine a_aload_n 4 dTold_take_94 rfl rfl ?_
  refine a_geta (r := 54) dTold_take_95 fl9_83 rfl ly_40 (by omega) (rf_40_2 hR) ?_
  refine a_callV (Q' := m_res none (cpB (m_up I 3 2 (nI (0 + 1))) 54 33 cplLog) J R) (as := [.ref 54]) (st := []) dTold_take_98 ml9_63 rfl (Nat.le_of_ble_eq_true rfl) ly_33 rfl rfl (by decide) (by omega) (Nat.le_of_ble_eq_true rfl) rfl (Nat.le_refl _) (Nat.le_refl _) (c_Log_copyFrom (S := S) (d := d) (n := n) (J := J) (R := R) (I := (m_up I 3 2 (nI (0 + 1)))) (o := 33) (p := 54) (by decide) (lgF hR (by decide +kernel)) (by omega) (by decide) (lgF hR (by decide +kernel)) (by omega) (by decide)) (m_go ?_)
  show AW _ _ _ _ _ _ _ _ [] _ _ _ _
  refine a_iload 0 dTold_take_101 rfl ?_
  exact a_iret dTold_take_103 rfl ⟨rfl, rfl, rfl, rfl⟩
theorem c_take20o {S : Nat × (Nat → Int32)} {d n : Nat} {I : mI} {J : mJ} {R : mR} (hn : 122 ≤ n) (hR : m_fin R) (h1 : f_of (nI 0) (I 3 2) = 1)  : RUN S (d + 2) YTold_take [.ref 1, .int (nI 2), .int (nI 0), .ref 40] I J R n (some (.int (nI 0))) (cpB I 54 33 cplLog) J R n := by
  show AW S _ YTold_take n n _ 0 [(0, .ref 1), (1, .int (nI 2)), (2, .int (nI 0)), (3, .ref 40)] [] I J R n
  refine a_aload_n 0 dTold_take_0 rfl rfl ?_
  refine a_iload_n 1 dTold_take_1 rfl rfl ?_
  refine a_iload_n 2 dTold_take_2 rfl rfl ?_
  refine a_callV (Q' := m_res (some (.int 1)) I J R) (as := [.int (nI 2), .int (nI 0)]) (st := []) dTold_take_3 ml9_70 rfl (Nat.le_of_ble_eq_true rfl) ly_1 rfl rfl (by decide) (by omega) (Nat.le_of_ble_eq_true rfl) rfl (Nat.le_refl _) (Nat.le_refl _) (by have h := c_may2o (S := S) (d := d) (n := n) (I := I) (J := J) (R := R) hn hR (y := nI 0) (by decide); rw [h1] at h; exact h) (m_go ?_)
  show AW _ _ _ _ _ _ _ _ [.int 1] _ _ _ _
  refine a_if_ne (tgt := 12) dTold_take_6 (by decide) (fun _ => ?_) (fun c => False.elim (absurd c (by decide)))
  refine a_iload_n 2 dTold_take_12 rfl rfl ?_
  refine a_iconst (v := -1) dTold_take_13 (by decide) ?_
  refine a_icmp_ne (tgt := 26) dTold_take_14 (by decide) (fun _ => ?_) (fun c => False.elim (absurd c (by decide)))
  refine a_iload_n 2 dTold_take_26 rfl rfl ?_
  refine a_istore (lv' := [(4, .int (nI 0)), (0, .ref 1), (1, .int (nI 2)), (2, .int (nI 0)), (3, .ref 40)]) dTold_take_27 (by decide) rfl ?_
  refine a_iload_n 3 dTold_take_29 rfl rfl ?_
  refine a_iconst (v := -1) dTold_take_30 (by decide) ?_
  refine a_icmp_ne (tgt := 44) dTold_take_31 (by decide) (fun _ => ?_) (fun c => False.elim (absurd c (by decide)))
  refine a_iload_n 2 dTold_take_44 rfl rfl ?_
  refine a_if_ne (tgt := 65) dTold_take_45 (by decide) (fun _ => ?_) (fun c => False.elim (absurd c (by decide)))
  refine a_iload_n 2 dTold_take_65 rfl rfl ?_
  refine a_iconstN (a := 1) dTold_take_66 (by decide) ?_
  refine a_icmp_neN (tgt := 87) dTold_take_67 (by decide) (by omega) (by omega) (fun _ => ?_) (fun c => False.elim (by omega))
  refine a_aload_n 1 dTold_take_87 rfl rfl ?_
  refine a_geta (r := 32) dTold_take_88 fl9_40 rfl ly_1 (by omega) (rf_1_7 hR) ?_
  refine a_iload 0 dTold_take_91 rfl ?_
  refine a_aaldN2 (r := 33) dTold_take_93 ly_32 (by omega) (by omega) (by omega) (by omega) (by decide) (hR (32, 0, 33) (by decide +kernel)) ?_
  refine a_aload_n 4 dTold_take_94 rfl rfl ?_
  refine a_geta (r := 54) dTold_take_95 fl9_83 rfl ly_40 (by omega) (rf_40_2 hR) ?_
  refine a_callV (Q' := m_res none (cpB I 54 33 cplLog) J R) (as := [.ref 54]) (st := []) dTold_take_98 ml9_63 rfl (Nat.le_of_ble_eq_true rfl) ly_33 rfl rfl (by decide) (by omega) (Nat.le_of_ble_eq_true rfl) rfl (Nat.le_refl _) (Nat.le_refl _) (c_Log_copyFrom (S := S) (d := d) (n := n) (J := J) (R := R) (I := I) (o := 33) (p := 54) (by decide) (lgF hR (by decide +kernel)) (by omega) (by decide) (lgF hR (by decide +kernel)) (by omega) (by decide)) (m_go ?_)
  show AW _ _ _ _ _ _ _ _ [] _ _ _ _
  refine a_iload 0 dTold_take_101 rfl ?_
  exact a_iret dTold_take_103 rfl ⟨rfl, rfl, rfl, rfl⟩
theorem c_take21n {S : Nat × (Nat → Int32)} {d n : Nat} {I : mI} {J : mJ} {R : mR} (hn : 122 ≤ n) (hR : m_fin R) (h3 : I 3 2 = nI 1)  : RUN S (d + 2) YTold_take [.ref 1, .int (nI 2), .int (-1), .ref 40] I J R n (some (.int (nI 1))) (cpB (m_up I 3 2 (nI 2)) 54 36 cplLog) J R n := by
  show AW S _ YTold_take n n _ 0 [(0, .ref 1), (1, .int (nI 2)), (2, .int (-1)), (3, .ref 40)] [] I J R n
  refine a_aload_n 0 dTold_take_0 rfl rfl ?_
  refine a_iload_n 1 dTold_take_1 rfl rfl ?_
  refine a_iload_n 2 dTold_take_2 rfl rfl ?_
  refine a_callV (Q' := m_res (some (.int (nI 1))) I J R) (as := [.int (nI 2), .int (-1)]) (st := []) dTold_take_3 ml9_70 rfl (Nat.le_of_ble_eq_true rfl) ly_1 rfl rfl (by decide) (by omega) (Nat.le_of_ble_eq_true rfl) rfl (Nat.le_refl _) (Nat.le_refl _) (c_may2n1 hn hR (by rw [h3]; decide)) (m_go ?_)
  show AW _ _ _ _ _ _ _ _ [.int (nI 1)] _ _ _ _
  refine a_if_ne (tgt := 12) dTold_take_6 (by decide) (fun _ => ?_) (fun c => False.elim (absurd c (by decide)))
  refine a_iload_n 2 dTold_take_12 rfl rfl ?_
  refine a_iconst (v := -1) dTold_take_13 (by decide) ?_
  refine a_icmp_ne (tgt := 26) dTold_take_14 (by decide) (fun c => False.elim (c rfl)) (fun _ => ?_)
  refine a_aload_n 0 dTold_take_17 rfl rfl ?_
  refine a_geta (r := 3) dTold_take_18 fl9_19 rfl ly_1 (by omega) (rf_1_4 hR) ?_
  refine a_iload_n 1 dTold_take_21 rfl rfl ?_
  refine a_ialdN (a := 2) dTold_take_22 ly_3 (by omega) (by omega) (by decide) ?_
  rw [show I 3 2 = I 3 2 from rfl]
  rw [show (I 3 2) = (nI 1) from h3]
  refine a_goto (tgt := 27) dTold_take_23 (by decide) ?_
  refine a_istore (lv' := [(4, .int (nI 1)), (0, .ref 1), (1, .int (nI 2)), (2, .int (-1)), (3, .ref 40)]) dTold_take_27 (by decide) rfl ?_
  refine a_iload_n 3 dTold_take_29 rfl rfl ?_
  refine a_iconst (v := -1) dTold_take_30 (by decide) ?_
  refine a_icmp_ne (tgt := 44) dTold_take_31 (by decide) (fun c => False.elim (c rfl)) (fun _ => ?_)
  refine a_aload_n 1 dTold_take_34 rfl rfl ?_
  refine a_geta (r := 3) dTold_take_35 fl9_19 rfl ly_1 (by omega) (rf_1_4 hR) ?_
  refine a_iload_n 2 dTold_take_38 rfl rfl ?_
  refine a_dup2 dTold_take_39 rfl rfl ?_
  refine a_ialdN (a := 2) dTold_take_40 ly_3 (by omega) (by omega) (by decide) ?_
  rw [show I 3 2 = I 3 2 from rfl]
  rw [show (I 3 2) = (nI 1) from h3]
  refine a_iconstN (a := 1) dTold_take_41 (by decide) ?_
  refine a_iaddN (a := 1) (b := 1) dTold_take_42 ?_
  refine a_iastN (a := 2) dTold_take_43 ly_3 (by omega) (by omega) (by decide) ?_
  refine a_iload_n 2 dTold_take_44 rfl rfl ?_
  refine a_if_ne (tgt := 65) dTold_take_45 (by decide) (fun _ => ?_) (fun c => False.elim (absurd c (by decide)))
  refine a_iload_n 2 dTold_take_65 rfl rfl ?_
  refine a_iconstN (a := 1) dTold_take_66 (by decide) ?_
  refine a_icmp_neN (tgt := 87) dTold_take_67 (by decide) (by omega) (by omega) (fun _ => ?_) (fun c => False.elim (by omega))
  refine a_aload_n 1 dTold_take_87 rfl rfl ?_
  refine a_geta (r := 32) dTold_take_88 fl9_40 rfl ly_1 (by omega) (rf_1_7 hR) ?_
  refine a_iload 0 dTold_take_91 rfl ?_
  refine a_aaldN2 (r := 36) dTold_take_93 ly_32 (by omega) (by omega) (by omega) (by omega) (by decide) (hR (32, 1, 36) (by decide +kernel)) ?_
  refine a_aload_n 4 dTold_take_94 rfl rfl ?_
  refine a_geta (r := 54) dTold_take_95 fl9_83 rfl ly_40 (by omega) (rf_40_2 hR) ?_
  refine a_callV (Q' := m_res none (cpB (m_up I 3 2 (nI (1 + 1))) 54 36 cplLog) J R) (as := [.ref 54]) (st := []) dTold_take_98 ml9_63 rfl (Nat.le_of_ble_eq_true rfl) ly_36 rfl rfl (by decide) (by omega) (Nat.le_of_ble_eq_true rfl) rfl (Nat.le_refl _) (Nat.le_refl _) (c_Log_copyFrom (S := S) (d := d) (n := n) (J := J) (R := R) (I := (m_up I 3 2 (nI (1 + 1)))) (o := 36) (p := 54) (by decide) (lgF hR (by decide +kernel)) (by omega) (by decide) (lgF hR (by decide +kernel)) (by omega) (by decide)) (m_go ?_)
  show AW _ _ _ _ _ _ _ _ [] _ _ _ _
  refine a_iload 0 dTold_take_101 rfl ?_
  exact a_iret dTold_take_103 rfl ⟨rfl, rfl, rfl, rfl⟩
theorem c_take21o {S : Nat × (Nat → Int32)} {d n : Nat} {I : mI} {J : mJ} {R : mR} (hn : 122 ≤ n) (hR : m_fin R) (h1 : f_of (nI 1) (I 3 2) = 1)  : RUN S (d + 2) YTold_take [.ref 1, .int (nI 2), .int (nI 1), .ref 40] I J R n (some (.int (nI 1))) (cpB I 54 36 cplLog) J R n := by
  show AW S _ YTold_take n n _ 0 [(0, .ref 1), (1, .int (nI 2)), (2, .int (nI 1)), (3, .ref 40)] [] I J R n
  refine a_aload_n 0 dTold_take_0 rfl rfl ?_
  refine a_iload_n 1 dTold_take_1 rfl rfl ?_
  refine a_iload_n 2 dTold_take_2 rfl rfl ?_
  refine a_callV (Q' := m_res (some (.int 1)) I J R) (as := [.int (nI 2), .int (nI 1)]) (st := []) dTold_take_3 ml9_70 rfl (Nat.le_of_ble_eq_true rfl) ly_1 rfl rfl (by decide) (by omega) (Nat.le_of_ble_eq_true rfl) rfl (Nat.le_refl _) (Nat.le_refl _) (by have h := c_may2o (S := S) (d := d) (n := n) (I := I) (J := J) (R := R) hn hR (y := nI 1) (by decide); rw [h1] at h; exact h) (m_go ?_)
  show AW _ _ _ _ _ _ _ _ [.int 1] _ _ _ _
  refine a_if_ne (tgt := 12) dTold_take_6 (by decide) (fun _ => ?_) (fun c => False.elim (absurd c (by decide)))
  refine a_iload_n 2 dTold_take_12 rfl rfl ?_
  refine a_iconst (v := -1) dTold_take_13 (by decide) ?_
  refine a_icmp_ne (tgt := 26) dTold_take_14 (by decide) (fun _ => ?_) (fun c => False.elim (absurd c (by decide)))
  refine a_iload_n 2 dTold_take_26 rfl rfl ?_
  refine a_istore (lv' := [(4, .int (nI 1)), (0, .ref 1), (1, .int (nI 2)), (2, .int (nI 1)), (3, .ref 40)]) dTold_take_27 (by decide) rfl ?_
  refine a_iload_n 3 dTold_take_29 rfl rfl ?_
  refine a_iconst (v := -1) dTold_take_30 (by decide) ?_
  refine a_icmp_ne (tgt := 44) dTold_take_31 (by decide) (fun _ => ?_) (fun c => False.elim (absurd c (by decide)))
  refine a_iload_n 2 dTold_take_44 rfl rfl ?_
  refine a_if_ne (tgt := 65) dTold_take_45 (by decide) (fun _ => ?_) (fun c => False.elim (absurd c (by decide)))
  refine a_iload_n 2 dTold_take_65 rfl rfl ?_
  refine a_iconstN (a := 1) dTold_take_66 (by decide) ?_
  refine a_icmp_neN (tgt := 87) dTold_take_67 (by decide) (by omega) (by omega) (fun _ => ?_) (fun c => False.elim (by omega))
  refine a_aload_n 1 dTold_take_87 rfl rfl ?_
  refine a_geta (r := 32) dTold_take_88 fl9_40 rfl ly_1 (by omega) (rf_1_7 hR) ?_
  refine a_iload 0 dTold_take_91 rfl ?_
  refine a_aaldN2 (r := 36) dTold_take_93 ly_32 (by omega) (by omega) (by omega) (by omega) (by decide) (hR (32, 1, 36) (by decide +kernel)) ?_
  refine a_aload_n 4 dTold_take_94 rfl rfl ?_
  refine a_geta (r := 54) dTold_take_95 fl9_83 rfl ly_40 (by omega) (rf_40_2 hR) ?_
  refine a_callV (Q' := m_res none (cpB I 54 36 cplLog) J R) (as := [.ref 54]) (st := []) dTold_take_98 ml9_63 rfl (Nat.le_of_ble_eq_true rfl) ly_36 rfl rfl (by decide) (by omega) (Nat.le_of_ble_eq_true rfl) rfl (Nat.le_refl _) (Nat.le_refl _) (c_Log_copyFrom (S := S) (d := d) (n := n) (J := J) (R := R) (I := I) (o := 36) (p := 54) (by decide) (lgF hR (by decide +kernel)) (by omega) (by decide) (lgF hR (by decide +kernel)) (by omega) (by decide)) (m_go ?_)
  show AW _ _ _ _ _ _ _ _ [] _ _ _ _
  refine a_iload 0 dTold_take_101 rfl ?_
  exact a_iret dTold_take_103 rfl ⟨rfl, rfl, rfl, rfl⟩
