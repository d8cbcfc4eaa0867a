/-- cells that are not made yet are empty -/
def zr (I : mI) (J : mJ) (R : mR) (n : Nat) : Prop := ∀ i, n ≤ i → I i = (fun _ => 0) ∧ J i = (fun _ => 0) ∧ R i = (fun _ => none)
section Zr
variable {I : mI} {J : mJ} {R : mR} {n a k : Nat}
theorem zr_s (h : zr I J R n) : zr I J R (n + 1) := fun i hi => h i (by omega)
theorem zr_m {m : Nat} (h : zr I J R n) (hm : n ≤ m) : zr I J R m := fun i hi => h i (by omega)
theorem zr_I {x : Int32} (h : zr I J R n) (ha : a < n) : zr (m_up I a k x) J R n := fun i hi => by
  rw [m_up_ne (show i ≠ a by omega)]; exact h i hi
theorem zr_R {x : Option Nat} (h : zr I J R n) (ha : a < n) : zr I J (m_up R a k x) n := fun i hi => by
  rw [m_up_ne (show i ≠ a by omega)]; exact h i hi
theorem m_row_id {α : Type} {M : Nat → Nat → α} {f : Nat → α} (h : M n = f) : m_row M n f = M := by
  funext i
  by_cases hi : i = n
  · subst hi; rw [m_row_eq, h]
  · rw [m_row_ne hi]
end Zr
section NewZ
variable {S : Nat × (Nat → Int32)} {d : Nat} {Y : mY} {n0 nf : Nat} {Q : Option Value → mI → mJ → mR → Prop} {pc idx : Nat} {lv : List (Nat × Value)} {st : List Value} {I : mI} {J : mJ} {R : mR} {n : Nat}
theorem a_newZ {ci N : Nat} (hz : zr I J R n) (hd : decode Y.2.1 pc = .ok (.new idx, 3)) (hk : m_kl Y.1.cls idx ci N) (hl : m_lay n = (ci, N)) (hn : n + 1 ≤ nf) (h6 : n + 1 ≤ 1000000) (kk : AW S d Y n0 nf Q (pc + 3) lv (.ref n :: st) I J R (n + 1)) : AW S d Y n0 nf Q pc lv st I J R n := by
  obtain ⟨h1, h2, h3⟩ := hz n (Nat.le_refl _)
  exact a_new hd hk hl hn h6 (by rw [m_row_id h1, m_row_id h2, m_row_id h3]; exact kk)
theorem a_newaZ {ty N : Nat} {at0 : ArrayType} {x : Int32} (hz : zr I J R n) (hd : decode Y.2.1 pc = .ok (.newarray at0, 2)) (ht : (ty = 50 ∧ at0 = .int) ∨ (ty = 51 ∧ at0 = .byte) ∨ (ty = 52 ∧ at0 = .boolean)) (hl : m_lay n = (ty, N)) (hx : ¬ x < 0) (hxN : x.toNatClampNeg = N) (hN4 : N ≤ 100000) (hn : n + 1 ≤ nf) (h6 : n + 1 ≤ 1000000) (kk : AW S d Y n0 nf Q (pc + 2) lv (.ref n :: st) I J R (n + 1)) : AW S d Y n0 nf Q pc lv (.int x :: st) I J R n := by
  obtain ⟨h1, h2, h3⟩ := hz n (Nat.le_refl _)
  exact a_newa hd ht hl hx hxN hN4 hn h6 (by rw [m_row_id h1, m_row_id h2, m_row_id h3]; exact kk)
theorem a_newqZ {ty N : Nat} {C : String} {x : Int32} (hz : zr I J R n) (hd : decode Y.2.1 pc = .ok (.anewarray idx, 3)) (hC : C ∈ m_aos) (hcl : Cond.classLink Y.1.cls idx C ∈ m_gd) (hty : ∀ cA, (m_tys cA)[ty - 50]? = some (cA ty, .object C)) (h53 : 53 ≤ ty) (hl : m_lay n = (ty, N)) (hx : ¬ x < 0) (hxN : x.toNatClampNeg = N) (hN4 : N ≤ 100000) (hn : n + 1 ≤ nf) (h6 : n + 1 ≤ 1000000) (kk : AW S d Y n0 nf Q (pc + 3) lv (.ref n :: st) I J R (n + 1)) : AW S d Y n0 nf Q pc lv (.int x :: st) I J R n := by
  obtain ⟨h1, h2, h3⟩ := hz n (Nat.le_refl _)
  exact a_newq hd hC hcl hty h53 hl hx hxN hN4 hn h6 (by rw [m_row_id h1, m_row_id h2, m_row_id h3]; exact kk)
end NewZ
def rfOffice (R : mR) (o : Nat) : mR := (m_up (m_up (m_up (m_up (m_up (m_up (m_up (m_up R o 3 (some (o + 1))) o 4 (some (o + 2))) o 5 (some (o + 3))) o 6 (some (o + 4))) o 7 (some (o + 5))) o 8 (some (o + 6))) o 9 (some (o + 7))) o 10 (some (o + 8)))
theorem c_Office_init {S : Nat × (Nat → Int32)} {d : Nat} {I : mI} {J : mJ} {R : mR} {o : Nat} (ho : o ∈ m_offs) (hz : zr I J R (o + 1)) : RUN S (d + 1) YOffice_init [.ref o] I J R (o + 1) none I J (rfOffice R o) (o + 9) := by
  have h6 : o < 1000 := (show ∀ o ∈ m_offs, o < 1000 by decide +kernel) o ho
  show AW S _ YOffice_init (o + 1) (o + 9) _ 0 [(0, .ref o)] [] I J R (o + 1)
  refine a_aload_n 0 dOffice_init_0 rfl rfl ?_
  refine a_objI dOffice_init_1 (m_in (i := 42) (by decide +kernel) rfl) (Nat.le_of_ble_eq_true rfl) ?_
  refine a_aload_n 0 dOffice_init_4 rfl rfl ?_
  refine a_bipushN (a := 6) dOffice_init_5 (by decide) ?_
  refine a_newaZ (ty := 50) (N := 6) hz dOffice_init_7 (by decide) (of_l1 ho) (by decide) (by decide) (by decide) (by omega) (by omega) ?_
  show AW _ _ _ _ _ _ _ _ _ _ _ _ (o + 2)
  refine a_puta dOffice_init_9 fl4_9 rfl rfl (fun _ => ⟨rfl, _, rfl, rfl⟩) (of_l0 ho) (by omega) ?_
  refine a_aload_n 0 dOffice_init_12 rfl rfl ?_
  refine a_bipushN (a := 10) dOffice_init_13 (by decide) ?_
  refine a_newaZ (ty := 50) (N := 10) (zr_R (zr_s hz) (by omega)) dOffice_init_15 (by decide) (of_l2 ho) (by decide) (by decide) (by decide) (by omega) (by omega) ?_
  show AW _ _ _ _ _ _ _ _ _ _ _ _ (o + 3)
  refine a_puta dOffice_init_17 fl4_15 rfl rfl (fun _ => ⟨rfl, _, rfl, rfl⟩) (of_l0 ho) (by omega) ?_
  refine a_aload_n 0 dOffice_init_20 rfl rfl ?_
  refine a_bipushN (a := 10) dOffice_init_21 (by decide) ?_
  refine a_newaZ (ty := 50) (N := 10) (zr_R (zr_s (zr_R (zr_s hz) (by omega))) (by omega)) dOffice_init_23 (by decide) (of_l3 ho) (by decide) (by decide) (by decide) (by omega) (by omega) ?_
  show AW _ _ _ _ _ _ _ _ _ _ _ _ (o + 4)
  refine a_puta dOffice_init_25 fl4_18 rfl rfl (fun _ => ⟨rfl, _, rfl, rfl⟩) (of_l0 ho) (by omega) ?_
  refine a_aload_n 0 dOffice_init_28 rfl rfl ?_
  refine a_bipushN (a := 10) dOffice_init_29 (by decide) ?_
  refine a_newaZ (ty := 50) (N := 10) (zr_R (zr_s (zr_R (zr_s (zr_R (zr_s hz) (by omega))) (by omega))) (by omega)) dOffice_init_31 (by decide) (of_l4 ho) (by decide) (by decide) (by decide) (by omega) (by omega) ?_
  show AW _ _ _ _ _ _ _ _ _ _ _ _ (o + 5)
  refine a_puta dOffice_init_33 fl4_21 rfl rfl (fun _ => ⟨rfl, _, rfl, rfl⟩) (of_l0 ho) (by omega) ?_
  refine a_aload_n 0 dOffice_init_36 rfl rfl ?_
  refine a_bipushN (a := 10) dOffice_init_37 (by decide) ?_
  refine a_newaZ (ty := 50) (N := 10) (zr_R (zr_s (zr_R (zr_s (zr_R (zr_s (zr_R (zr_s hz) (by omega))) (by omega))) (by omega))) (by omega)) dOffice_init_39 (by decide) (of_l5 ho) (by decide) (by decide) (by decide) (by omega) (by omega) ?_
  show AW _ _ _ _ _ _ _ _ _ _ _ _ (o + 6)
  refine a_puta dOffice_init_41 fl4_24 rfl rfl (fun _ => ⟨rfl, _, rfl, rfl⟩) (of_l0 ho) (by omega) ?_
  refine a_aload_n 0 dOffice_init_44 rfl rfl ?_
  refine a_bipushN (a := 10) dOffice_init_45 (by decide) ?_
  refine a_newaZ (ty := 50) (N := 10) (zr_R (zr_s (zr_R (zr_s (zr_R (zr_s (zr_R (zr_s (zr_R (zr_s hz) (by omega))) (by omega))) (by omega))) (by omega))) (by omega)) dOffice_init_47 (by decide) (of_l6 ho) (by decide) (by decide) (by decide) (by omega) (by omega) ?_
  show AW _ _ _ _ _ _ _ _ _ _ _ _ (o + 7)
  refine a_puta dOffice_init_49 fl4_27 rfl rfl (fun _ => ⟨rfl, _, rfl, rfl⟩) (of_l0 ho) (by omega) ?_
  refine a_aload_n 0 dOffice_init_52 rfl rfl ?_
  refine a_bipushN (a := 10) dOffice_init_53 (by decide) ?_
  refine a_newaZ (ty := 50) (N := 10) (zr_R (zr_s (zr_R (zr_s (zr_R (zr_s (zr_R (zr_s (zr_R (zr_s (zr_R (zr_s hz) (by omega))) (by omega))) (by omega))) (by omega))) (by omega))) (by omega)) dOffice_init_55 (by decide) (of_l7 ho) (by decide) (by decide) (by decide) (by omega) (by omega) ?_
  show AW _ _ _ _ _ _ _ _ _ _ _ _ (o + 8)
  refine a_puta dOffice_init_57 fl4_30 rfl rfl (fun _ => ⟨rfl, _, rfl, rfl⟩) (of_l0 ho) (by omega) ?_
  refine a_aload_n 0 dOffice_init_60 rfl rfl ?_
  refine a_bipushN (a := 16) dOffice_init_61 (by decide) ?_
  refine a_newaZ (ty := 50) (N := 16) (zr_R (zr_s (zr_R (zr_s (zr_R (zr_s (zr_R (zr_s (zr_R (zr_s (zr_R (zr_s (zr_R (zr_s hz) (by omega))) (by omega))) (by omega))) (by omega))) (by omega))) (by omega))) (by omega)) dOffice_init_63 (by decide) (of_l8 ho) (by decide) (by decide) (by decide) (by omega) (by omega) ?_
  show AW _ _ _ _ _ _ _ _ _ _ _ _ (o + 9)
  refine a_puta dOffice_init_65 fl4_33 rfl rfl (fun _ => ⟨rfl, _, rfl, rfl⟩) (of_l0 ho) (by omega) ?_
  exact a_vret dOffice_init_68 rfl ⟨rfl, rfl, rfl, rfl⟩
theorem zr_Office {I : mI} {J : mJ} {R : mR} {o : Nat} (ho : o ∈ m_offs) (hz : zr I J R (o + 1)) : zr I J (rfOffice R o) (o + 9) := by
  unfold rfOffice
  exact (zr_R (zr_s (zr_R (zr_s (zr_R (zr_s (zr_R (zr_s (zr_R (zr_s (zr_R (zr_s (zr_R (zr_s (zr_R (zr_s hz) (by omega))) (by omega))) (by omega))) (by omega))) (by omega))) (by omega))) (by omega))) (by omega))
def rfWeek (R : mR) (o : Nat) : mR := (m_up (m_up (m_up R o 1 (some (o + 1))) o 2 (some (o + 2))) o 3 (some (o + 3)))
theorem c_Week_init {S : Nat × (Nat → Int32)} {d : Nat} {I : mI} {J : mJ} {R : mR} {o : Nat} (ho : o ∈ m_wks) (hz : zr I J R (o + 1)) : RUN S (d + 1) YWeek_init [.ref o] I J R (o + 1) none I J (rfWeek R o) (o + 4) := by
  have h6 : o < 1000 := (show ∀ o ∈ m_wks, o < 1000 by decide +kernel) o ho
  show AW S _ YWeek_init (o + 1) (o + 4) _ 0 [(0, .ref o)] [] I J R (o + 1)
  refine a_aload_n 0 dWeek_init_0 rfl rfl ?_
  refine a_objI dWeek_init_1 (m_in (i := 123) (by decide +kernel) rfl) (Nat.le_of_ble_eq_true rfl) ?_
  refine a_aload_n 0 dWeek_init_4 rfl rfl ?_
  refine a_bipushN (a := 40) dWeek_init_5 (by decide) ?_
  refine a_newaZ (ty := 50) (N := 40) hz dWeek_init_7 (by decide) (wk_l1 ho) (by decide) (by decide) (by decide) (by omega) (by omega) ?_
  show AW _ _ _ _ _ _ _ _ _ _ _ _ (o + 2)
  refine a_puta dWeek_init_9 fl10_9 rfl rfl (fun _ => ⟨rfl, _, rfl, rfl⟩) (wk_l0 ho) (by omega) ?_
  refine a_aload_n 0 dWeek_init_12 rfl rfl ?_
  refine a_bipushN (a := 40) dWeek_init_13 (by decide) ?_
  refine a_newaZ (ty := 50) (N := 40) (zr_R (zr_s hz) (by omega)) dWeek_init_15 (by decide) (wk_l2 ho) (by decide) (by decide) (by decide) (by omega) (by omega) ?_
  show AW _ _ _ _ _ _ _ _ _ _ _ _ (o + 3)
  refine a_puta dWeek_init_17 fl10_15 rfl rfl (fun _ => ⟨rfl, _, rfl, rfl⟩) (wk_l0 ho) (by omega) ?_
  refine a_aload_n 0 dWeek_init_20 rfl rfl ?_
  refine a_bipushN (a := 40) dWeek_init_21 (by decide) ?_
  refine a_newaZ (ty := 50) (N := 40) (zr_R (zr_s (zr_R (zr_s hz) (by omega))) (by omega)) dWeek_init_23 (by decide) (wk_l3 ho) (by decide) (by decide) (by decide) (by omega) (by omega) ?_
  show AW _ _ _ _ _ _ _ _ _ _ _ _ (o + 4)
  refine a_puta dWeek_init_25 fl10_18 rfl rfl (fun _ => ⟨rfl, _, rfl, rfl⟩) (wk_l0 ho) (by omega) ?_
  exact a_vret dWeek_init_28 rfl ⟨rfl, rfl, rfl, rfl⟩
theorem zr_Week {I : mI} {J : mJ} {R : mR} {o : Nat} (ho : o ∈ m_wks) (hz : zr I J R (o + 1)) : zr I J (rfWeek R o) (o + 4) := by
  unfold rfWeek
  exact (zr_R (zr_s (zr_R (zr_s (zr_R (zr_s hz) (by omega))) (by omega))) (by omega))
def rfLog (R : mR) (o : Nat) : mR := (m_up (m_up R o 1 (some (o + 1))) o 2 (some (o + 2)))
theorem c_Log_init {S : Nat × (Nat → Int32)} {d : Nat} {I : mI} {J : mJ} {R : mR} {o : Nat} (ho : o ∈ m_lgs) (hz : zr I J R (o + 1)) : RUN S (d + 1) YLog_init [.ref o] I J R (o + 1) none I J (rfLog R o) (o + 3) := by
  have h6 : o < 1000 := (show ∀ o ∈ m_lgs, o < 1000 by decide +kernel) o ho
  show AW S _ YLog_init (o + 1) (o + 3) _ 0 [(0, .ref o)] [] I J R (o + 1)
  refine a_aload_n 0 dLog_init_0 rfl rfl ?_
  refine a_objI dLog_init_1 (m_in (i := 149) (by decide +kernel) rfl) (Nat.le_of_ble_eq_true rfl) ?_
  refine a_aload_n 0 dLog_init_4 rfl rfl ?_
  refine a_bipushN (a := 8) dLog_init_5 (by decide) ?_
  refine a_newaZ (ty := 50) (N := 8) hz dLog_init_7 (by decide) (lg_l1 ho) (by decide) (by decide) (by decide) (by omega) (by omega) ?_
  show AW _ _ _ _ _ _ _ _ _ _ _ _ (o + 2)
  refine a_puta dLog_init_9 fl3_9 rfl rfl (fun _ => ⟨rfl, _, rfl, rfl⟩) (lg_l0 ho) (by omega) ?_
  refine a_aload_n 0 dLog_init_12 rfl rfl ?_
  refine a_bipushN (a := 8) dLog_init_13 (by decide) ?_
  refine a_newaZ (ty := 50) (N := 8) (zr_R (zr_s hz) (by omega)) dLog_init_15 (by decide) (lg_l2 ho) (by decide) (by decide) (by decide) (by omega) (by omega) ?_
  show AW _ _ _ _ _ _ _ _ _ _ _ _ (o + 3)
  refine a_puta dLog_init_17 fl3_15 rfl rfl (fun _ => ⟨rfl, _, rfl, rfl⟩) (lg_l0 ho) (by omega) ?_
  exact a_vret dLog_init_20 rfl ⟨rfl, rfl, rfl, rfl⟩
theorem zr_Log {I : mI} {J : mJ} {R : mR} {o : Nat} (ho : o ∈ m_lgs) (hz : zr I J R (o + 1)) : zr I J (rfLog R o) (o + 3) := by
  unfold rfLog
  exact (zr_R (zr_s (zr_R (zr_s hz) (by omega))) (by omega))
def rfTold (R : mR) (t : Nat) : mR := (m_up (m_up (rfLog (m_up (rfLog (m_up (m_up (rfWeek (m_up (rfWeek (m_up (m_up (rfOffice (m_up (rfOffice (m_up (m_up R t 0 (some (t + 1))) t 4 (some (t + 2))) (t + 4)) (t + 3) 0 (some (t + 4))) (t + 13)) (t + 3) 1 (some (t + 13))) t 5 (some (t + 3))) (t + 23)) (t + 22) 0 (some (t + 23))) (t + 27)) (t + 22) 1 (some (t + 27))) t 6 (some (t + 22))) (t + 32)) (t + 31) 0 (some (t + 32))) (t + 35)) (t + 31) 1 (some (t + 35))) t 7 (some (t + 31)))
theorem c_Told_init {S : Nat × (Nat → Int32)} {d : Nat} {I : mI} {J : mJ} {R : mR} {t : Nat} (ht : t ∈ m_tlds) (hz : zr I J R (t + 1)) : RUN S (d + 2) YTold_init [.ref t] I J R (t + 1) none (m_up I t 3 (-1)) J (rfTold R t) (t + 38) := by
  have h6 : t < 1000 := (show ∀ t ∈ m_tlds, t < 1000 by decide +kernel) t ht
  show AW S _ YTold_init (t + 1) (t + 38) _ 0 [(0, .ref t)] [] I J R (t + 1)
  refine a_aload_n 0 dTold_init_0 rfl rfl ?_
  refine a_objI dTold_init_1 (m_in (i := 35) (by decide +kernel) rfl) (Nat.le_of_ble_eq_true rfl) ?_
  refine a_aload_n 0 dTold_init_4 rfl rfl ?_
  refine a_sipushN (a := 600) dTold_init_5 (by decide) ?_
  refine a_newaZ (ty := 51) (N := 600) hz dTold_init_8 (by decide) (tl_1 ht) (by decide) (by decide) (by decide) (by omega) (by omega) ?_
  show AW _ _ _ _ _ _ _ _ _ _ _ _ (t + 2)
  refine a_puta dTold_init_10 fl9_9 rfl rfl (fun _ => ⟨rfl, _, rfl, rfl⟩) (tl_0 ht) (by omega) ?_
  refine a_aload_n 0 dTold_init_13 rfl rfl ?_
  refine a_iconst (v := -1) dTold_init_14 (by decide) ?_
  refine a_puti dTold_init_15 fl9_15 rfl (tl_0 ht) (by omega) ?_
  refine a_aload_n 0 dTold_init_18 rfl rfl ?_
  refine a_iconstN (a := 3) dTold_init_19 (by decide) ?_
  refine a_newaZ (ty := 50) (N := 3) (zr_I (zr_R (zr_s hz) (by omega)) (by omega)) dTold_init_20 (by decide) (tl_2 ht) (by decide) (by decide) (by decide) (by omega) (by omega) ?_
  show AW _ _ _ _ _ _ _ _ _ _ _ _ (t + 3)
  refine a_puta dTold_init_22 fl9_19 rfl rfl (fun _ => ⟨rfl, _, rfl, rfl⟩) (tl_0 ht) (by omega) ?_
  refine a_aload_n 0 dTold_init_25 rfl rfl ?_
  refine a_iconstN (a := 2) dTold_init_26 (by decide) ?_
  refine a_newqZ (ty := 54) (N := 2) (C := "SortedOffice$Office") (zr_R (zr_s (zr_I (zr_R (zr_s hz) (by omega)) (by omega))) (by omega)) dTold_init_27 (by decide) cw9_23 (fun _ => rfl) (by decide) (tl_3 ht) (by decide) (by decide) (by decide) (by omega) (by omega) ?_
  show AW _ _ _ _ _ _ _ _ _ _ _ _ (t + 4)
  refine a_dup dTold_init_30 rfl ?_
  refine a_iconstN (a := 0) dTold_init_31 (by decide) ?_
  refine a_newZ (zr_s (zr_R (zr_s (zr_I (zr_R (zr_s hz) (by omega)) (by omega))) (by omega))) dTold_init_32 kl9_23 (of_l0 (tm_4 ht)) (by omega) (by omega) ?_
  show AW _ _ _ _ _ _ _ _ _ _ _ _ (t + 5)
  refine a_dup dTold_init_35 rfl ?_
  refine a_callN (Q' := m_res none (m_up I t 3 (-1)) J (rfOffice (m_up (m_up R t 0 (some (t + 1))) t 4 (some (t + 2))) (t + 4))) (as := []) (st := [.ref (t + 4), .int (nI 0), .ref (t + 3), .ref (t + 3), .ref t]) dTold_init_36 ml9_25 rfl (Nat.le_of_ble_eq_true rfl) (Nat.le_of_ble_eq_true rfl) rfl (by omega) (by omega) (c_Office_init (o := (t + 4)) (tm_4 ht) (zr_s (zr_s (zr_R (zr_s (zr_I (zr_R (zr_s hz) (by omega)) (by omega))) (by omega))))) (m_go ?_)
  show AW _ _ _ _ _ _ _ _ [.ref (t + 4), .int (nI 0), .ref (t + 3), .ref (t + 3), .ref t] _ _ _ _
  refine a_aast dTold_init_39 (tl_3 ht) (by decide) (by omega) (vp_in_nI (by omega) (by decide)) (of_l0 (tm_4 ht)) (by decide) rfl (fun _ => rfl) (by omega) ?_
  rw [nI_clamp (show 0 < 2 ^ 31 by omega)]
  refine a_dup dTold_init_40 rfl ?_
  refine a_iconstN (a := 1) dTold_init_41 (by decide) ?_
  refine a_newZ (zr_R (zr_Office (o := (t + 4)) (tm_4 ht) (zr_s (zr_s (zr_R (zr_s (zr_I (zr_R (zr_s hz) (by omega)) (by omega))) (by omega))))) (by omega)) dTold_init_42 kl9_23 (of_l0 (tm_13 ht)) (by omega) (by omega) ?_
  show AW _ _ _ _ _ _ _ _ _ _ _ _ (t + 14)
  refine a_dup dTold_init_45 rfl ?_
  refine a_callN (Q' := m_res none (m_up I t 3 (-1)) J (rfOffice (m_up (rfOffice (m_up (m_up R t 0 (some (t + 1))) t 4 (some (t + 2))) (t + 4)) (t + 3) 0 (some (t + 4))) (t + 13))) (as := []) (st := [.ref (t + 13), .int (nI 1), .ref (t + 3), .ref (t + 3), .ref t]) dTold_init_46 ml9_25 rfl (Nat.le_of_ble_eq_true rfl) (Nat.le_of_ble_eq_true rfl) rfl (by omega) (by omega) (c_Office_init (o := (t + 13)) (tm_13 ht) (zr_s (zr_R (zr_Office (o := (t + 4)) (tm_4 ht) (zr_s (zr_s (zr_R (zr_s (zr_I (zr_R (zr_s hz) (by omega)) (by omega))) (by omega))))) (by omega)))) (m_go ?_)
  show AW _ _ _ _ _ _ _ _ [.ref (t + 13), .int (nI 1), .ref (t + 3), .ref (t + 3), .ref t] _ _ _ _
  refine a_aast dTold_init_49 (tl_3 ht) (by decide) (by omega) (vp_in_nI (by omega) (by decide)) (of_l0 (tm_13 ht)) (by decide) rfl (fun _ => rfl) (by omega) ?_
  rw [nI_clamp (show 1 < 2 ^ 31 by omega)]
  refine a_puta dTold_init_50 fl9_26 rfl rfl (fun _ => ⟨rfl, _, rfl, rfl⟩) (tl_0 ht) (by omega) ?_
  refine a_aload_n 0 dTold_init_53 rfl rfl ?_
  refine a_iconstN (a := 2) dTold_init_54 (by decide) ?_
  refine a_newqZ (ty := 55) (N := 2) (C := "SortedOffice$Week") (zr_R (zr_R (zr_Office (o := (t + 13)) (tm_13 ht) (zr_s (zr_R (zr_Office (o := (t + 4)) (tm_4 ht) (zr_s (zr_s (zr_R (zr_s (zr_I (zr_R (zr_s hz) (by omega)) (by omega))) (by omega))))) (by omega)))) (by omega)) (by omega)) dTold_init_55 (by decide) cw9_30 (fun _ => rfl) (by decide) (tl_22 ht) (by decide) (by decide) (by decide) (by omega) (by omega) ?_
  show AW _ _ _ _ _ _ _ _ _ _ _ _ (t + 23)
  refine a_dup dTold_init_58 rfl ?_
  refine a_iconstN (a := 0) dTold_init_59 (by decide) ?_
  refine a_newZ (zr_s (zr_R (zr_R (zr_Office (o := (t + 13)) (tm_13 ht) (zr_s (zr_R (zr_Office (o := (t + 4)) (tm_4 ht) (zr_s (zr_s (zr_R (zr_s (zr_I (zr_R (zr_s hz) (by omega)) (by omega))) (by omega))))) (by omega)))) (by omega)) (by omega))) dTold_init_60 kl9_30 (wk_l0 (tm_23 ht)) (by omega) (by omega) ?_
  show AW _ _ _ _ _ _ _ _ _ _ _ _ (t + 24)
  refine a_dup dTold_init_63 rfl ?_
  refine a_callN (Q' := m_res none (m_up I t 3 (-1)) J (rfWeek (m_up (m_up (rfOffice (m_up (rfOffice (m_up (m_up R t 0 (some (t + 1))) t 4 (some (t + 2))) (t + 4)) (t + 3) 0 (some (t + 4))) (t + 13)) (t + 3) 1 (some (t + 13))) t 5 (some (t + 3))) (t + 23))) (as := []) (st := [.ref (t + 23), .int (nI 0), .ref (t + 22), .ref (t + 22), .ref t]) dTold_init_64 ml9_32 rfl (Nat.le_of_ble_eq_true rfl) (Nat.le_of_ble_eq_true rfl) rfl (by omega) (by omega) (c_Week_init (o := (t + 23)) (tm_23 ht) (zr_s (zr_s (zr_R (zr_R (zr_Office (o := (t + 13)) (tm_13 ht) (zr_s (zr_R (zr_Office (o := (t + 4)) (tm_4 ht) (zr_s (zr_s (zr_R (zr_s (zr_I (zr_R (zr_s hz) (by omega)) (by omega))) (by omega))))) (by omega)))) (by omega)) (by omega))))) (m_go ?_)
  show AW _ _ _ _ _ _ _ _ [.ref (t + 23), .int (nI 0), .ref (t + 22), .ref (t + 22), .ref t] _ _ _ _
  refine a_aast dTold_init_67 (tl_22 ht) (by decide) (by omega) (vp_in_nI (by omega) (by decide)) (wk_l0 (tm_23 ht)) (by decide) rfl (fun _ => rfl) (by omega) ?_
  rw [nI_clamp (show 0 < 2 ^ 31 by omega)]
  refine a_dup dTold_init_68 rfl ?_
  refine a_iconstN (a := 1) dTold_init_69 (by decide) ?_
  refine a_newZ (zr_R (zr_Week (o := (t + 23)) (tm_23 ht) (zr_s (zr_s (zr_R (zr_R (zr_Office (o := (t + 13)) (tm_13 ht) (zr_s (zr_R (zr_Office (o := (t + 4)) (tm_4 ht) (zr_s (zr_s (zr_R (zr_s (zr_I (zr_R (zr_s hz) (by omega)) (by omega))) (by omega))))) (by omega)))) (by omega)) (by omega))))) (by omega)) dTold_init_70 kl9_30 (wk_l0 (tm_27 ht)) (by omega) (by omega) ?_
  show AW _ _ _ _ _ _ _ _ _ _ _ _ (t + 28)
  refine a_dup dTold_init_73 rfl ?_
  refine a_callN (Q' := m_res none (m_up I t 3 (-1)) J (rfWeek (m_up (rfWeek (m_up (m_up (rfOffice (m_up (rfOffice (m_up (m_up R t 0 (some (t + 1))) t 4 (some (t + 2))) (t + 4)) (t + 3) 0 (some (t + 4))) (t + 13)) (t + 3) 1 (some (t + 13))) t 5 (some (t + 3))) (t + 23)) (t + 22) 0 (some (t + 23))) (t + 27))) (as := []) (st := [.ref (t + 27), .int (nI 1), .ref (t + 22), .ref (t + 22), .ref t]) dTold_init_74 ml9_32 rfl (Nat.le_of_ble_eq_true rfl) (Nat.le_of_ble_eq_true rfl) rfl (by omega) (by omega) (c_Week_init (o := (t + 27)) (tm_27 ht) (zr_s (zr_R (zr_Week (o := (t + 23)) (tm_23 ht) (zr_s (zr_s (zr_R (zr_R (zr_Office (o := (t + 13)) (tm_13 ht) (zr_s (zr_R (zr_Office (o := (t + 4)) (tm_4 ht) (zr_s (zr_s (zr_R (zr_s (zr_I (zr_R (zr_s hz) (by omega)) (by omega))) (by omega))))) (by omega)))) (by omega)) (by omega))))) (by omega)))) (m_go ?_)
  show AW _ _ _ _ _ _ _ _ [.ref (t + 27), .int (nI 1), .ref (t + 22), .ref (t + 22), .ref t] _ _ _ _
  refine a_aast dTold_init_77 (tl_22 ht) (by decide) (by omega) (vp_in_nI (by omega) (by decide)) (wk_l0 (tm_27 ht)) (by decide) rfl (fun _ => rfl) (by omega) ?_
  rw [nI_clamp (show 1 < 2 ^ 31 by omega)]
  refine a_puta dTold_init_78 fl9_33 rfl rfl (fun _ => ⟨rfl, _, rfl, rfl⟩) (tl_0 ht) (by omega) ?_
  refine a_aload_n 0 dTold_init_81 rfl rfl ?_
  refine a_iconstN (a := 2) dTold_init_82 (by decide) ?_
  refine a_newqZ (ty := 56) (N := 2) (C := "SortedOffice$Log") (zr_R (zr_R (zr_Week (o := (t + 27)) (tm_27 ht) (zr_s (zr_R (zr_Week (o := (t + 23)) (tm_23 ht) (zr_s (zr_s (zr_R (zr_R (zr_Office (o := (t + 13)) (tm_13 ht) (zr_s (zr_R (zr_Office (o := (t + 4)) (tm_4 ht) (zr_s (zr_s (zr_R (zr_s (zr_I (zr_R (zr_s hz) (by omega)) (by omega))) (by omega))))) (by omega)))) (by omega)) (by omega))))) (by omega)))) (by omega)) (by omega)) dTold_init_83 (by decide) cw9_37 (fun _ => rfl) (by decide) (tl_31 ht) (by decide) (by decide) (by decide) (by omega) (by omega) ?_
  show AW _ _ _ _ _ _ _ _ _ _ _ _ (t + 32)
  refine a_dup dTold_init_86 rfl ?_
  refine a_iconstN (a := 0) dTold_init_87 (by decide) ?_
  refine a_newZ (zr_s (zr_R (zr_R (zr_Week (o := (t + 27)) (tm_27 ht) (zr_s (zr_R (zr_Week (o := (t + 23)) (tm_23 ht) (zr_s (zr_s (zr_R (zr_R (zr_Office (o := (t + 13)) (tm_13 ht) (zr_s (zr_R (zr_Office (o := (t + 4)) (tm_4 ht) (zr_s (zr_s (zr_R (zr_s (zr_I (zr_R (zr_s hz) (by omega)) (by omega))) (by omega))))) (by omega)))) (by omega)) (by omega))))) (by omega)))) (by omega)) (by omega))) dTold_init_88 kl9_37 (lg_l0 (tm_32 ht)) (by omega) (by omega) ?_
  show AW _ _ _ _ _ _ _ _ _ _ _ _ (t + 33)
  refine a_dup dTold_init_91 rfl ?_
  refine a_callN (Q' := m_res none (m_up I t 3 (-1)) J (rfLog (m_up (m_up (rfWeek (m_up (rfWeek (m_up (m_up (rfOffice (m_up (rfOffice (m_up (m_up R t 0 (some (t + 1))) t 4 (some (t + 2))) (t + 4)) (t + 3) 0 (some (t + 4))) (t + 13)) (t + 3) 1 (some (t + 13))) t 5 (some (t + 3))) (t + 23)) (t + 22) 0 (some (t + 23))) (t + 27)) (t + 22) 1 (some (t + 27))) t 6 (some (t + 22))) (t + 32))) (as := []) (st := [.ref (t + 32), .int (nI 0), .ref (t + 31), .ref (t + 31), .ref t]) dTold_init_92 ml9_39 rfl (Nat.le_of_ble_eq_true rfl) (Nat.le_of_ble_eq_true rfl) rfl (by omega) (by omega) (c_Log_init (o := (t + 32)) (tm_32 ht) (zr_s (zr_s (zr_R (zr_R (zr_Week (o := (t + 27)) (tm_27 ht) (zr_s (zr_R (zr_Week (o := (t + 23)) (tm_23 ht) (zr_s (zr_s (zr_R (zr_R (zr_Office (o := (t + 13)) (tm_13 ht) (zr_s (zr_R (zr_Office (o := (t + 4)) (tm_4 ht) (zr_s (zr_s (zr_R (zr_s (zr_I (zr_R (zr_s hz) (by omega)) (by omega))) (by omega))))) (by omega)))) (by omega)) (by omega))))) (by omega)))) (by omega)) (by omega))))) (m_go ?_)
  show AW _ _ _ _ _ _ _ _ [.ref (t + 32), .int (nI 0), .ref (t + 31), .ref (t + 31), .ref t] _ _ _ _
  refine a_aast dTold_init_95 (tl_31 ht) (by decide) (by omega) (vp_in_nI (by omega) (by decide)) (lg_l0 (tm_32 ht)) (by decide) rfl (fun _ => rfl) (by omega) ?_
  rw [nI_clamp (show 0 < 2 ^ 31 by omega)]
  refine a_dup dTold_init_96 rfl ?_
  refine a_iconstN (a := 1) dTold_init_97 (by decide) ?_
  refine a_newZ (zr_R (zr_Log (o := (t + 32)) (tm_32 ht) (zr_s (zr_s (zr_R (zr_R (zr_Week (o := (t + 27)) (tm_27 ht) (zr_s (zr_R (zr_Week (o := (t + 23)) (tm_23 ht) (zr_s (zr_s (zr_R (zr_R (zr_Office (o := (t + 13)) (tm_13 ht) (zr_s (zr_R (zr_Office (o := (t + 4)) (tm_4 ht) (zr_s (zr_s (zr_R (zr_s (zr_I (zr_R (zr_s hz) (by omega)) (by omega))) (by omega))))) (by omega)))) (by omega)) (by omega))))) (by omega)))) (by omega)) (by omega))))) (by omega)) dTold_init_98 kl9_37 (lg_l0 (tm_35 ht)) (by omega) (by omega) ?_
  show AW _ _ _ _ _ _ _ _ _ _ _ _ (t + 36)
  refine a_dup dTold_init_101 rfl ?_
  refine a_callN (Q' := m_res none (m_up I t 3 (-1)) J (rfLog (m_up (rfLog (m_up (m_up (rfWeek (m_up (rfWeek (m_up (m_up (rfOffice (m_up (rfOffice (m_up (m_up R t 0 (some (t + 1))) t 4 (some (t + 2))) (t + 4)) (t + 3) 0 (some (t + 4))) (t + 13)) (t + 3) 1 (some (t + 13))) t 5 (some (t + 3))) (t + 23)) (t + 22) 0 (some (t + 23))) (t + 27)) (t + 22) 1 (some (t + 27))) t 6 (some (t + 22))) (t + 32)) (t + 31) 0 (some (t + 32))) (t + 35))) (as := []) (st := [.ref (t + 35), .int (nI 1), .ref (t + 31), .ref (t + 31), .ref t]) dTold_init_102 ml9_39 rfl (Nat.le_of_ble_eq_true rfl) (Nat.le_of_ble_eq_true rfl) rfl (by omega) (by omega) (c_Log_init (o := (t + 35)) (tm_35 ht) (zr_s (zr_R (zr_Log (o := (t + 32)) (tm_32 ht) (zr_s (zr_s (zr_R (zr_R (zr_Week (o := (t + 27)) (tm_27 ht) (zr_s (zr_R (zr_Week (o := (t + 23)) (tm_23 ht) (zr_s (zr_s (zr_R (zr_R (zr_Office (o := (t + 13)) (tm_13 ht) (zr_s (zr_R (zr_Office (o := (t + 4)) (tm_4 ht) (zr_s (zr_s (zr_R (zr_s (zr_I (zr_R (zr_s hz) (by omega)) (by omega))) (by omega))))) (by omega)))) (by omega)) (by omega))))) (by omega)))) (by omega)) (by omega))))) (by omega)))) (m_go ?_)
  show AW _ _ _ _ _ _ _ _ [.ref (t + 35), .int (nI 1), .ref (t + 31), .ref (t + 31), .ref t] _ _ _ _
  refine a_aast dTold_init_105 (tl_31 ht) (by decide) (by omega) (vp_in_nI (by omega) (by decide)) (lg_l0 (tm_35 ht)) (by decide) rfl (fun _ => rfl) (by omega) ?_
  rw [nI_clamp (show 1 < 2 ^ 31 by omega)]
  refine a_puta dTold_init_106 fl9_40 rfl rfl (fun _ => ⟨rfl, _, rfl, rfl⟩) (tl_0 ht) (by omega) ?_
  exact a_vret dTold_init_109 rfl ⟨rfl, rfl, rfl, rfl⟩
theorem zr_Told {I : mI} {J : mJ} {R : mR} {t : Nat} (ht : t ∈ m_tlds) (hz : zr I J R (t + 1)) : zr (m_up I t 3 (-1)) J (rfTold R t) (t + 38) := by
  unfold rfTold
  exact (zr_R (zr_R (zr_Log (o := (t + 35)) (tm_35 ht) (zr_s (zr_R (zr_Log (o := (t + 32)) (tm_32 ht) (zr_s (zr_s (zr_R (zr_R (zr_Week (o := (t + 27)) (tm_27 ht) (zr_s (zr_R (zr_Week (o := (t + 23)) (tm_23 ht) (zr_s (zr_s (zr_R (zr_R (zr_Office (o := (t + 13)) (tm_13 ht) (zr_s (zr_R (zr_Office (o := (t + 4)) (tm_4 ht) (zr_s (zr_s (zr_R (zr_s (zr_I (zr_R (zr_s hz) (by omega)) (by omega))) (by omega))))) (by omega)))) (by omega)) (by omega))))) (by omega)))) (by omega)) (by omega))))) (by omega)))) (by omega)) (by omega))
def rfReader (R : mR) : mR := (m_up (m_up (m_up (m_up (rfLog (m_up (rfWeek (m_up (rfOffice R 41) 40 0 (some 41)) 50) 40 1 (some 50)) 54) 40 2 (some 54)) 40 11 (some 57)) 40 13 (some 58)) 40 14 (some 59))
theorem c_Reader_init {S : Nat × (Nat → Int32)} {d : Nat} {I : mI} {J : mJ} {R : mR} (hz : zr I J R 41) : RUN S (d + 2) YReader_init [.ref 40] I J R 41 none I J (rfReader R) 60 := by
  show AW S _ YReader_init 41 60 _ 0 [(0, .ref 40)] [] I J R 41
  refine a_aload_n 0 dReader_init_0 rfl rfl ?_
  refine a_objI dReader_init_1 (m_in (i := 200) (by decide +kernel) rfl) (Nat.le_of_ble_eq_true rfl) ?_
  refine a_aload_n 0 dReader_init_4 rfl rfl ?_
  refine a_newZ hz dReader_init_5 kl7_9 ly_41 (by omega) (by omega) ?_
  show AW _ _ _ _ _ _ _ _ _ _ _ _ 42
  refine a_dup dReader_init_8 rfl ?_
  refine a_callN (Q' := m_res none I J (rfOffice R 41)) (as := []) (st := [.ref 41, .ref 40]) dReader_init_9 ml7_11 rfl (Nat.le_of_ble_eq_true rfl) (Nat.le_of_ble_eq_true rfl) rfl (by omega) (by omega) (c_Office_init (o := 41) (by decide) (zr_s hz)) (m_go ?_)
  show AW _ _ _ _ _ _ _ _ [.ref 41, .ref 40] _ _ _ _
  refine a_puta dReader_init_12 fl7_12 rfl rfl (fun _ => ⟨rfl, _, rfl, rfl⟩) ly_40 (by omega) ?_
  refine a_aload_n 0 dReader_init_15 rfl rfl ?_
  refine a_newZ (zr_R (zr_Office (o := 41) (by decide) (zr_s hz)) (by omega)) dReader_init_16 kl7_18 ly_50 (by omega) (by omega) ?_
  show AW _ _ _ _ _ _ _ _ _ _ _ _ 51
  refine a_dup dReader_init_19 rfl ?_
  refine a_callN (Q' := m_res none I J (rfWeek (m_up (rfOffice R 41) 40 0 (some 41)) 50)) (as := []) (st := [.ref 50, .ref 40]) dReader_init_20 ml7_20 rfl (Nat.le_of_ble_eq_true rfl) (Nat.le_of_ble_eq_true rfl) rfl (by omega) (by omega) (c_Week_init (o := 50) (by decide) (zr_s (zr_R (zr_Office (o := 41) (by decide) (zr_s hz)) (by omega)))) (m_go ?_)
  show AW _ _ _ _ _ _ _ _ [.ref 50, .ref 40] _ _ _ _
  refine a_puta dReader_init_23 fl7_21 rfl rfl (fun _ => ⟨rfl, _, rfl, rfl⟩) ly_40 (by omega) ?_
  refine a_aload_n 0 dReader_init_26 rfl rfl ?_
  refine a_newZ (zr_R (zr_Week (o := 50) (by decide) (zr_s (zr_R (zr_Office (o := 41) (by decide) (zr_s hz)) (by omega)))) (by omega)) dReader_init_27 kl7_25 ly_54 (by omega) (by omega) ?_
  show AW _ _ _ _ _ _ _ _ _ _ _ _ 55
  refine a_dup dReader_init_30 rfl ?_
  refine a_callN (Q' := m_res none I J (rfLog (m_up (rfWeek (m_up (rfOffice R 41) 40 0 (some 41)) 50) 40 1 (some 50)) 54)) (as := []) (st := [.ref 54, .ref 40]) dReader_init_31 ml7_27 rfl (Nat.le_of_ble_eq_true rfl) (Nat.le_of_ble_eq_true rfl) rfl (by omega) (by omega) (c_Log_init (o := 54) (by decide) (zr_s (zr_R (zr_Week (o := 50) (by decide) (zr_s (zr_R (zr_Office (o := 41) (by decide) (zr_s hz)) (by omega)))) (by omega)))) (m_go ?_)
  show AW _ _ _ _ _ _ _ _ [.ref 54, .ref 40] _ _ _ _
  refine a_puta dReader_init_34 fl7_28 rfl rfl (fun _ => ⟨rfl, _, rfl, rfl⟩) ly_40 (by omega) ?_
  refine a_aload_n 0 dReader_init_37 rfl rfl ?_
  refine a_iconstN (a := 3) dReader_init_38 (by decide) ?_
  refine a_newaZ (ty := 50) (N := 3) (zr_R (zr_Log (o := 54) (by decide) (zr_s (zr_R (zr_Week (o := 50) (by decide) (zr_s (zr_R (zr_Office (o := 41) (by decide) (zr_s hz)) (by omega)))) (by omega)))) (by omega)) dReader_init_39 (by decide) ly_57 (by decide) (by decide) (by decide) (by omega) (by omega) ?_
  show AW _ _ _ _ _ _ _ _ _ _ _ _ 58
  refine a_puta dReader_init_41 fl7_32 rfl rfl (fun _ => ⟨rfl, _, rfl, rfl⟩) ly_40 (by omega) ?_
  refine a_aload_n 0 dReader_init_44 rfl rfl ?_
  refine a_iconstN (a := 3) dReader_init_45 (by decide) ?_
  refine a_newaZ (ty := 50) (N := 3) (zr_R (zr_s (zr_R (zr_Log (o := 54) (by decide) (zr_s (zr_R (zr_Week (o := 50) (by decide) (zr_s (zr_R (zr_Office (o := 41) (by decide) (zr_s hz)) (by omega)))) (by omega)))) (by omega))) (by omega)) dReader_init_46 (by decide) ly_58 (by decide) (by decide) (by decide) (by omega) (by omega) ?_
  show AW _ _ _ _ _ _ _ _ _ _ _ _ 59
  refine a_puta dReader_init_48 fl7_36 rfl rfl (fun _ => ⟨rfl, _, rfl, rfl⟩) ly_40 (by omega) ?_
  refine a_aload_n 0 dReader_init_51 rfl rfl ?_
  refine a_iconstN (a := 3) dReader_init_52 (by decide) ?_
  refine a_newaZ (ty := 50) (N := 3) (zr_R (zr_s (zr_R (zr_s (zr_R (zr_Log (o := 54) (by decide) (zr_s (zr_R (zr_Week (o := 50) (by decide) (zr_s (zr_R (zr_Office (o := 41) (by decide) (zr_s hz)) (by omega)))) (by omega)))) (by omega))) (by omega))) (by omega)) dReader_init_53 (by decide) ly_59 (by decide) (by decide) (by decide) (by omega) (by omega) ?_
  show AW _ _ _ _ _ _ _ _ _ _ _ _ 60
  refine a_puta dReader_init_55 fl7_39 rfl rfl (fun _ => ⟨rfl, _, rfl, rfl⟩) ly_40 (by omega) ?_
  exact a_vret dReader_init_58 rfl ⟨rfl, rfl, rfl, rfl⟩
theorem zr_Reader {I : mI} {J : mJ} {R : mR} (hz : zr I J R 41) : zr I J (rfReader R) 60 := by
  unfold rfReader
  exact (zr_R (zr_s (zr_R (zr_s (zr_R (zr_s (zr_R (zr_Log (o := 54) (by decide) (zr_s (zr_R (zr_Week (o := 50) (by decide) (zr_s (zr_R (zr_Office (o := 41) (by decide) (zr_s hz)) (by omega)))) (by omega)))) (by omega))) (by omega))) (by omega))) (by omega))
def rfCourse60 (R : mR) : mR := (m_up (m_up (m_up R 60 6 (some 61)) 60 7 (some 62)) 60 8 (some 63))
theorem c_Course_init60 {S : Nat × (Nat → Int32)} {d : Nat} {I : mI} {J : mJ} {R : mR} (hz : zr I J R 61) : RUN S (d + 1) YCourse_init [.ref 60] I J R 61 none I J (rfCourse60 R) 64 := by
  show AW S _ YCourse_init 61 64 _ 0 [(0, .ref 60)] [] I J R 61
  refine a_aload_n 0 dCourse_init_0 rfl rfl ?_
  refine a_objI dCourse_init_1 (m_in (i := 272) (by decide +kernel) rfl) (Nat.le_of_ble_eq_true rfl) ?_
  refine a_aload_n 0 dCourse_init_4 rfl rfl ?_
  refine a_bipushN (a := 6) dCourse_init_5 (by decide) ?_
  refine a_newaZ (ty := 50) (N := 6) hz dCourse_init_7 (by decide) ly_61 (by decide) (by decide) (by decide) (by omega) (by omega) ?_
  show AW _ _ _ _ _ _ _ _ _ _ _ _ 62
  refine a_puta dCourse_init_9 fl2_9 rfl rfl (fun _ => ⟨rfl, _, rfl, rfl⟩) ly_60 (by omega) ?_
  refine a_aload_n 0 dCourse_init_12 rfl rfl ?_
  refine a_bipushN (a := 6) dCourse_init_13 (by decide) ?_
  refine a_newaZ (ty := 50) (N := 6) (zr_R (zr_s hz) (by omega)) dCourse_init_15 (by decide) ly_62 (by decide) (by decide) (by decide) (by omega) (by omega) ?_
  show AW _ _ _ _ _ _ _ _ _ _ _ _ 63
  refine a_puta dCourse_init_17 fl2_15 rfl rfl (fun _ => ⟨rfl, _, rfl, rfl⟩) ly_60 (by omega) ?_
  refine a_aload_n 0 dCourse_init_20 rfl rfl ?_
  refine a_bipushN (a := 6) dCourse_init_21 (by decide) ?_
  refine a_newaZ (ty := 50) (N := 6) (zr_R (zr_s (zr_R (zr_s hz) (by omega))) (by omega)) dCourse_init_23 (by decide) ly_63 (by decide) (by decide) (by decide) (by omega) (by omega) ?_
  show AW _ _ _ _ _ _ _ _ _ _ _ _ 64
  refine a_puta dCourse_init_25 fl2_18 rfl rfl (fun _ => ⟨rfl, _, rfl, rfl⟩) ly_60 (by omega) ?_
  exact a_vret dCourse_init_28 rfl ⟨rfl, rfl, rfl, rfl⟩
theorem zr_Course60 {I : mI} {J : mJ} {R : mR} (hz : zr I J R 61) : zr I J (rfCourse60 R) 64 := by
  unfold rfCourse60
  exact (zr_R (zr_s (zr_R (zr_s (zr_R (zr_s hz) (by omega))) (by omega))) (by omega))
def rfCourse88 (R : mR) : mR := (m_up (m_up (m_up R 88 6 (some 89)) 88 7 (some 90)) 88 8 (some 91))
theorem c_Course_init88 {S : Nat × (Nat → Int32)} {d : Nat} {I : mI} {J : mJ} {R : mR} (hz : zr I J R 89) : RUN S (d + 1) YCourse_init [.ref 88] I J R 89 none I J (rfCourse88 R) 92 := by
  show AW S _ YCourse_init 89 92 _ 0 [(0, .ref 88)] [] I J R 89
  refine a_aload_n 0 dCourse_init_0 rfl rfl ?_
  refine a_objI dCourse_init_1 (m_in (i := 272) (by decide +kernel) rfl) (Nat.le_of_ble_eq_true rfl) ?_
  refine a_aload_n 0 dCourse_init_4 rfl rfl ?_
  refine a_bipushN (a := 6) dCourse_init_5 (by decide) ?_
  refine a_newaZ (ty := 50) (N := 6) hz dCourse_init_7 (by decide) ly_89 (by decide) (by decide) (by decide) (by omega) (by omega) ?_
  show AW _ _ _ _ _ _ _ _ _ _ _ _ 90
  refine a_puta dCourse_init_9 fl2_9 rfl rfl (fun _ => ⟨rfl, _, rfl, rfl⟩) ly_88 (by omega) ?_
  refine a_aload_n 0 dCourse_init_12 rfl rfl ?_
  refine a_bipushN (a := 6) dCourse_init_13 (by decide) ?_
  refine a_newaZ (ty := 50) (N := 6) (zr_R (zr_s hz) (by omega)) dCourse_init_15 (by decide) ly_90 (by decide) (by decide) (by decide) (by omega) (by omega) ?_
  show AW _ _ _ _ _ _ _ _ _ _ _ _ 91
  refine a_puta dCourse_init_17 fl2_15 rfl rfl (fun _ => ⟨rfl, _, rfl, rfl⟩) ly_88 (by omega) ?_
  refine a_aload_n 0 dCourse_init_20 rfl rfl ?_
  refine a_bipushN (a := 6) dCourse_init_21 (by decide) ?_
  refine a_newaZ (ty := 50) (N := 6) (zr_R (zr_s (zr_R (zr_s hz) (by omega))) (by omega)) dCourse_init_23 (by decide) ly_91 (by decide) (by decide) (by decide) (by omega) (by omega) ?_
  show AW _ _ _ _ _ _ _ _ _ _ _ _ 92
  refine a_puta dCourse_init_25 fl2_18 rfl rfl (fun _ => ⟨rfl, _, rfl, rfl⟩) ly_88 (by omega) ?_
  exact a_vret dCourse_init_28 rfl ⟨rfl, rfl, rfl, rfl⟩
theorem zr_Course88 {I : mI} {J : mJ} {R : mR} (hz : zr I J R 89) : zr I J (rfCourse88 R) 92 := by
  unfold rfCourse88
  exact (zr_R (zr_s (zr_R (zr_s (zr_R (zr_s hz) (by omega))) (by omega))) (by omega))
def rfOrders (R : mR) : mR := (m_up (rfOffice (m_up (m_up (m_up (m_up (m_up (m_up R 64 3 (some 65)) 64 4 (some 66)) 64 5 (some 67)) 64 6 (some 68)) 64 7 (some 69)) 64 8 (some 70)) 71) 64 9 (some 71))
theorem c_Orders_init {S : Nat × (Nat → Int32)} {d : Nat} {I : mI} {J : mJ} {R : mR} (hz : zr I J R 65) : RUN S (d + 2) YOrders_init [.ref 64] I J R 65 none I J (rfOrders R) 80 := by
  show AW S _ YOrders_init 65 80 _ 0 [(0, .ref 64)] [] I J R 65
  refine a_aload_n 0 dOrders_init_0 rfl rfl ?_
  refine a_objI dOrders_init_1 (m_in (i := 323) (by decide +kernel) rfl) (Nat.le_of_ble_eq_true rfl) ?_
  refine a_aload_n 0 dOrders_init_4 rfl rfl ?_
  refine a_bipushN (a := 10) dOrders_init_5 (by decide) ?_
  refine a_newaZ (ty := 50) (N := 10) hz dOrders_init_7 (by decide) ly_65 (by decide) (by decide) (by decide) (by omega) (by omega) ?_
  show AW _ _ _ _ _ _ _ _ _ _ _ _ 66
  refine a_puta dOrders_init_9 fl5_9 rfl rfl (fun _ => ⟨rfl, _, rfl, rfl⟩) ly_64 (by omega) ?_
  refine a_aload_n 0 dOrders_init_12 rfl rfl ?_
  refine a_bipushN (a := 10) dOrders_init_13 (by decide) ?_
  refine a_newaZ (ty := 50) (N := 10) (zr_R (zr_s hz) (by omega)) dOrders_init_15 (by decide) ly_66 (by decide) (by decide) (by decide) (by omega) (by omega) ?_
  show AW _ _ _ _ _ _ _ _ _ _ _ _ 67
  refine a_puta dOrders_init_17 fl5_15 rfl rfl (fun _ => ⟨rfl, _, rfl, rfl⟩) ly_64 (by omega) ?_
  refine a_aload_n 0 dOrders_init_20 rfl rfl ?_
  refine a_bipushN (a := 50) dOrders_init_21 (by decide) ?_
  refine a_newaZ (ty := 50) (N := 50) (zr_R (zr_s (zr_R (zr_s hz) (by omega))) (by omega)) dOrders_init_23 (by decide) ly_67 (by decide) (by decide) (by decide) (by omega) (by omega) ?_
  show AW _ _ _ _ _ _ _ _ _ _ _ _ 68
  refine a_puta dOrders_init_25 fl5_18 rfl rfl (fun _ => ⟨rfl, _, rfl, rfl⟩) ly_64 (by omega) ?_
  refine a_aload_n 0 dOrders_init_28 rfl rfl ?_
  refine a_sipushN (a := 5120) dOrders_init_29 (by decide) ?_
  refine a_newaZ (ty := 50) (N := 5120) (zr_R (zr_s (zr_R (zr_s (zr_R (zr_s hz) (by omega))) (by omega))) (by omega)) dOrders_init_32 (by decide) ly_68 (by decide) (by decide) (by decide) (by omega) (by omega) ?_
  show AW _ _ _ _ _ _ _ _ _ _ _ _ 69
  refine a_puta dOrders_init_34 fl5_21 rfl rfl (fun _ => ⟨rfl, _, rfl, rfl⟩) ly_64 (by omega) ?_
  refine a_aload_n 0 dOrders_init_37 rfl rfl ?_
  refine a_bipushN (a := 6) dOrders_init_38 (by decide) ?_
  refine a_newaZ (ty := 50) (N := 6) (zr_R (zr_s (zr_R (zr_s (zr_R (zr_s (zr_R (zr_s hz) (by omega))) (by omega))) (by omega))) (by omega)) dOrders_init_40 (by decide) ly_69 (by decide) (by decide) (by decide) (by omega) (by omega) ?_
  show AW _ _ _ _ _ _ _ _ _ _ _ _ 70
  refine a_puta dOrders_init_42 fl5_24 rfl rfl (fun _ => ⟨rfl, _, rfl, rfl⟩) ly_64 (by omega) ?_
  refine a_aload_n 0 dOrders_init_45 rfl rfl ?_
  refine a_bipushN (a := 10) dOrders_init_46 (by decide) ?_
  refine a_newaZ (ty := 50) (N := 10) (zr_R (zr_s (zr_R (zr_s (zr_R (zr_s (zr_R (zr_s (zr_R (zr_s hz) (by omega))) (by omega))) (by omega))) (by omega))) (by omega)) dOrders_init_48 (by decide) ly_70 (by decide) (by decide) (by decide) (by omega) (by omega) ?_
  show AW _ _ _ _ _ _ _ _ _ _ _ _ 71
  refine a_puta dOrders_init_50 fl5_27 rfl rfl (fun _ => ⟨rfl, _, rfl, rfl⟩) ly_64 (by omega) ?_
  refine a_aload_n 0 dOrders_init_53 rfl rfl ?_
  refine a_newZ (zr_R (zr_s (zr_R (zr_s (zr_R (zr_s (zr_R (zr_s (zr_R (zr_s (zr_R (zr_s hz) (by omega))) (by omega))) (by omega))) (by omega))) (by omega))) (by omega)) dOrders_init_54 kl5_30 ly_71 (by omega) (by omega) ?_
  show AW _ _ _ _ _ _ _ _ _ _ _ _ 72
  refine a_dup dOrders_init_57 rfl ?_
  refine a_callN (Q' := m_res none I J (rfOffice (m_up (m_up (m_up (m_up (m_up (m_up R 64 3 (some 65)) 64 4 (some 66)) 64 5 (some 67)) 64 6 (some 68)) 64 7 (some 69)) 64 8 (some 70)) 71)) (as := []) (st := [.ref 71, .ref 64]) dOrders_init_58 ml5_32 rfl (Nat.le_of_ble_eq_true rfl) (Nat.le_of_ble_eq_true rfl) rfl (by omega) (by omega) (c_Office_init (o := 71) (by decide) (zr_s (zr_R (zr_s (zr_R (zr_s (zr_R (zr_s (zr_R (zr_s (zr_R (zr_s (zr_R (zr_s hz) (by omega))) (by omega))) (by omega))) (by omega))) (by omega))) (by omega)))) (m_go ?_)
  show AW _ _ _ _ _ _ _ _ [.ref 71, .ref 64] _ _ _ _
  refine a_puta dOrders_init_61 fl5_33 rfl rfl (fun _ => ⟨rfl, _, rfl, rfl⟩) ly_64 (by omega) ?_
  exact a_vret dOrders_init_64 rfl ⟨rfl, rfl, rfl, rfl⟩
theorem zr_Orders {I : mI} {J : mJ} {R : mR} (hz : zr I J R 65) : zr I J (rfOrders R) 80 := by
  unfold rfOrders
  exact (zr_R (zr_Office (o := 71) (by decide) (zr_s (zr_R (zr_s (zr_R (zr_s (zr_R (zr_s (zr_R (zr_s (zr_R (zr_s (zr_R (zr_s hz) (by omega))) (by omega))) (by omega))) (by omega))) (by omega))) (by omega)))) (by omega))
def rfRacks (R : mR) : mR := R
theorem c_Racks_init {S : Nat × (Nat → Int32)} {d : Nat} {I : mI} {J : mJ} {R : mR} (hz : zr I J R 81) : RUN S (d + 1) YRacks_init [.ref 80] I J R 81 none I J (rfRacks R) 81 := by
  show AW S _ YRacks_init 81 81 _ 0 [(0, .ref 80)] [] I J R 81
  refine a_aload_n 0 dRacks_init_0 rfl rfl ?_
  refine a_objI dRacks_init_1 (m_in (i := 364) (by decide +kernel) rfl) (Nat.le_of_ble_eq_true rfl) ?_
  exact a_vret dRacks_init_4 rfl ⟨rfl, rfl, rfl, rfl⟩
theorem zr_Racks {I : mI} {J : mJ} {R : mR} (hz : zr I J R 81) : zr I J (rfRacks R) 81 := by
  unfold rfRacks
  exact hz
def rfBags (R : mR) : mR := (m_up (m_up (m_up R 81 0 (some 82)) 81 1 (some 83)) 81 2 (some 84))
theorem c_Bags_init {S : Nat × (Nat → Int32)} {d : Nat} {I : mI} {J : mJ} {R : mR} (hz : zr I J R 82) : RUN S (d + 1) YBags_init [.ref 81] I J R 82 none I J (rfBags R) 85 := by
  show AW S _ YBags_init 82 85 _ 0 [(0, .ref 81)] [] I J R 82
  refine a_aload_n 0 dBags_init_0 rfl rfl ?_
  refine a_objI dBags_init_1 (m_in (i := 379) (by decide +kernel) rfl) (Nat.le_of_ble_eq_true rfl) ?_
  refine a_aload_n 0 dBags_init_4 rfl rfl ?_
  refine a_bipushN (a := 10) dBags_init_5 (by decide) ?_
  refine a_newaZ (ty := 50) (N := 10) hz dBags_init_7 (by decide) ly_82 (by decide) (by decide) (by decide) (by omega) (by omega) ?_
  show AW _ _ _ _ _ _ _ _ _ _ _ _ 83
  refine a_puta dBags_init_9 fl0_9 rfl rfl (fun _ => ⟨rfl, _, rfl, rfl⟩) ly_81 (by omega) ?_
  refine a_aload_n 0 dBags_init_12 rfl rfl ?_
  refine a_bipushN (a := 10) dBags_init_13 (by decide) ?_
  refine a_newaZ (ty := 50) (N := 10) (zr_R (zr_s hz) (by omega)) dBags_init_15 (by decide) ly_83 (by decide) (by decide) (by decide) (by omega) (by omega) ?_
  show AW _ _ _ _ _ _ _ _ _ _ _ _ 84
  refine a_puta dBags_init_17 fl0_15 rfl rfl (fun _ => ⟨rfl, _, rfl, rfl⟩) ly_81 (by omega) ?_
  refine a_aload_n 0 dBags_init_20 rfl rfl ?_
  refine a_bipushN (a := 60) dBags_init_21 (by decide) ?_
  refine a_newaZ (ty := 50) (N := 60) (zr_R (zr_s (zr_R (zr_s hz) (by omega))) (by omega)) dBags_init_23 (by decide) ly_84 (by decide) (by decide) (by decide) (by omega) (by omega) ?_
  show AW _ _ _ _ _ _ _ _ _ _ _ _ 85
  refine a_puta dBags_init_25 fl0_18 rfl rfl (fun _ => ⟨rfl, _, rfl, rfl⟩) ly_81 (by omega) ?_
  exact a_vret dBags_init_28 rfl ⟨rfl, rfl, rfl, rfl⟩
theorem zr_Bags {I : mI} {J : mJ} {R : mR} (hz : zr I J R 82) : zr I J (rfBags R) 85 := by
  unfold rfBags
  exact (zr_R (zr_s (zr_R (zr_s (zr_R (zr_s hz) (by omega))) (by omega))) (by omega))
def rfSlips (R : mR) : mR := (m_up (rfCourse88 (m_up (m_up R 85 1 (some 86)) 85 2 (some 87))) 85 3 (some 88))
theorem c_Slips_init {S : Nat × (Nat → Int32)} {d : Nat} {I : mI} {J : mJ} {R : mR} (hz : zr I J R 86) : RUN S (d + 2) YSlips_init [.ref 85] I J R 86 none I J (rfSlips R) 92 := by
  show AW S _ YSlips_init 86 92 _ 0 [(0, .ref 85)] [] I J R 86
  refine a_aload_n 0 dSlips_init_0 rfl rfl ?_
  refine a_objI dSlips_init_1 (m_in (i := 405) (by decide +kernel) rfl) (Nat.le_of_ble_eq_true rfl) ?_
  refine a_aload_n 0 dSlips_init_4 rfl rfl ?_
  refine a_bipushN (a := 61) dSlips_init_5 (by decide) ?_
  refine a_newaZ (ty := 50) (N := 61) hz dSlips_init_7 (by decide) ly_86 (by decide) (by decide) (by decide) (by omega) (by omega) ?_
  show AW _ _ _ _ _ _ _ _ _ _ _ _ 87
  refine a_puta dSlips_init_9 fl8_11 rfl rfl (fun _ => ⟨rfl, _, rfl, rfl⟩) ly_85 (by omega) ?_
  refine a_aload_n 0 dSlips_init_12 rfl rfl ?_
  refine a_sipushN (a := 366) dSlips_init_13 (by decide) ?_
  refine a_newaZ (ty := 50) (N := 366) (zr_R (zr_s hz) (by omega)) dSlips_init_16 (by decide) ly_87 (by decide) (by decide) (by decide) (by omega) (by omega) ?_
  show AW _ _ _ _ _ _ _ _ _ _ _ _ 88
  refine a_puta dSlips_init_18 fl8_15 rfl rfl (fun _ => ⟨rfl, _, rfl, rfl⟩) ly_85 (by omega) ?_
  refine a_aload_n 0 dSlips_init_21 rfl rfl ?_
  refine a_newZ (zr_R (zr_s (zr_R (zr_s hz) (by omega))) (by omega)) dSlips_init_22 kl8_18 ly_88 (by omega) (by omega) ?_
  show AW _ _ _ _ _ _ _ _ _ _ _ _ 89
  refine a_dup dSlips_init_25 rfl ?_
  refine a_callN (Q' := m_res none I J (rfCourse88 (m_up (m_up R 85 1 (some 86)) 85 2 (some 87)))) (as := []) (st := [.ref 88, .ref 85]) dSlips_init_26 ml8_20 rfl (Nat.le_of_ble_eq_true rfl) (Nat.le_of_ble_eq_true rfl) rfl (by omega) (by omega) (c_Course_init88 (zr_s (zr_R (zr_s (zr_R (zr_s hz) (by omega))) (by omega)))) (m_go ?_)
  show AW _ _ _ _ _ _ _ _ [.ref 88, .ref 85] _ _ _ _
  refine a_puta dSlips_init_29 fl8_21 rfl rfl (fun _ => ⟨rfl, _, rfl, rfl⟩) ly_85 (by omega) ?_
  exact a_vret dSlips_init_32 rfl ⟨rfl, rfl, rfl, rfl⟩
theorem zr_Slips {I : mI} {J : mJ} {R : mR} (hz : zr I J R 86) : zr I J (rfSlips R) 92 := by
  unfold rfSlips
  exact (zr_R (zr_Course88 (zr_s (zr_R (zr_s (zr_R (zr_s hz) (by omega))) (by omega)))) (by omega))
def rfChances (R : mR) : mR := (m_up (m_up R 92 3 (some 93)) 92 4 (some 94))
theorem c_Chances_init {S : Nat × (Nat → Int32)} {d : Nat} {I : mI} {J : mJ} {R : mR} (hz : zr I J R 93) : RUN S (d + 1) YChances_init [.ref 92] I J R 93 none I J (rfChances R) 95 := by
  show AW S _ YChances_init 93 95 _ 0 [(0, .ref 92)] [] I J R 93
  refine a_aload_n 0 dChances_init_0 rfl rfl ?_
  refine a_objI dChances_init_1 (m_in (i := 430) (by decide +kernel) rfl) (Nat.le_of_ble_eq_true rfl) ?_
  refine a_aload_n 0 dChances_init_4 rfl rfl ?_
  refine a_bipushN (a := 6) dChances_init_5 (by decide) ?_
  refine a_newaZ (ty := 50) (N := 6) hz dChances_init_7 (by decide) ly_93 (by decide) (by decide) (by decide) (by omega) (by omega) ?_
  show AW _ _ _ _ _ _ _ _ _ _ _ _ 94
  refine a_puta dChances_init_9 fl1_9 rfl rfl (fun _ => ⟨rfl, _, rfl, rfl⟩) ly_92 (by omega) ?_
  refine a_aload_n 0 dChances_init_12 rfl rfl ?_
  refine a_bipushN (a := 6) dChances_init_13 (by decide) ?_
  refine a_newaZ (ty := 50) (N := 6) (zr_R (zr_s hz) (by omega)) dChances_init_15 (by decide) ly_94 (by decide) (by decide) (by decide) (by omega) (by omega) ?_
  show AW _ _ _ _ _ _ _ _ _ _ _ _ 95
  refine a_puta dChances_init_17 fl1_15 rfl rfl (fun _ => ⟨rfl, _, rfl, rfl⟩) ly_92 (by omega) ?_
  exact a_vret dChances_init_20 rfl ⟨rfl, rfl, rfl, rfl⟩
theorem zr_Chances {I : mI} {J : mJ} {R : mR} (hz : zr I J R 93) : zr I J (rfChances R) 95 := by
  unfold rfChances
  exact (zr_R (zr_s (zr_R (zr_s hz) (by omega))) (by omega))
def rfS (R : mR) : mR := (m_up (rfChances (m_up (rfSlips (m_up (rfBags (m_up (rfRacks (m_up (rfOrders (m_up (rfCourse60 (m_up (rfReader (m_up (m_up (rfTold R 1) 0 0 (some 1)) 0 1 (some 39))) 0 2 (some 40))) 0 3 (some 60))) 0 4 (some 64))) 0 5 (some 80))) 0 6 (some 81))) 0 7 (some 85))) 0 8 (some 92))
theorem c_S_init {S : Nat × (Nat → Int32)} {d : Nat} {I : mI} {J : mJ} {R : mR} (hz : zr I J R 1) : RUN S (d + 3) YS_init [.ref 0] I J R 1 none (m_up I 1 3 (-1)) J (rfS R) 95 := by
  show AW S _ YS_init 1 95 _ 0 [(0, .ref 0)] [] I J R 1
  refine a_aload_n 0 dS_init_0 rfl rfl ?_
  refine a_objI dS_init_1 (m_in (i := 27) (by decide +kernel) rfl) (Nat.le_of_ble_eq_true rfl) ?_
  refine a_aload_n 0 dS_init_4 rfl rfl ?_
  refine a_newZ hz dS_init_5 kl11_7 ly_1 (by omega) (by omega) ?_
  show AW _ _ _ _ _ _ _ _ _ _ _ _ 2
  refine a_dup dS_init_8 rfl ?_
  refine a_callN (Q' := m_res none (m_up I 1 3 (-1)) J (rfTold R 1)) (as := []) (st := [.ref 1, .ref 0]) dS_init_9 ml11_9 rfl (Nat.le_of_ble_eq_true rfl) (Nat.le_of_ble_eq_true rfl) rfl (by omega) (by omega) (c_Told_init (t := 1) (by decide) (zr_s hz)) (m_go ?_)
  show AW _ _ _ _ _ _ _ _ [.ref 1, .ref 0] _ _ _ _
  refine a_puta dS_init_12 fl11_10 rfl rfl (fun _ => ⟨rfl, _, rfl, rfl⟩) ly_0 (by omega) ?_
  refine a_aload_n 0 dS_init_15 rfl rfl ?_
  refine a_iconstN (a := 3) dS_init_16 (by decide) ?_
  refine a_newqZ (ty := 53) (N := 3) (C := "SortedOffice$Told") (zr_R (zr_Told (t := 1) (by decide) (zr_s hz)) (by omega)) dS_init_17 (by decide) cw11_7 (fun _ => rfl) (by decide) ly_39 (by decide) (by decide) (by decide) (by omega) (by omega) ?_
  show AW _ _ _ _ _ _ _ _ _ _ _ _ 40
  refine a_puta dS_init_20 fl11_16 rfl rfl (fun _ => ⟨rfl, _, rfl, rfl⟩) ly_0 (by omega) ?_
  refine a_aload_n 0 dS_init_23 rfl rfl ?_
  refine a_newZ (zr_R (zr_s (zr_R (zr_Told (t := 1) (by decide) (zr_s hz)) (by omega))) (by omega)) dS_init_24 kl11_20 ly_40 (by omega) (by omega) ?_
  show AW _ _ _ _ _ _ _ _ _ _ _ _ 41
  refine a_dup dS_init_27 rfl ?_
  refine a_callN (Q' := m_res none (m_up I 1 3 (-1)) J (rfReader (m_up (m_up (rfTold R 1) 0 0 (some 1)) 0 1 (some 39)))) (as := []) (st := [.ref 40, .ref 0]) dS_init_28 ml11_22 rfl (Nat.le_of_ble_eq_true rfl) (Nat.le_of_ble_eq_true rfl) rfl (by omega) (by omega) (c_Reader_init (zr_s (zr_R (zr_s (zr_R (zr_Told (t := 1) (by decide) (zr_s hz)) (by omega))) (by omega)))) (m_go ?_)
  show AW _ _ _ _ _ _ _ _ [.ref 40, .ref 0] _ _ _ _
  refine a_puta dS_init_31 fl11_23 rfl rfl (fun _ => ⟨rfl, _, rfl, rfl⟩) ly_0 (by omega) ?_
  refine a_aload_n 0 dS_init_34 rfl rfl ?_
  refine a_newZ (zr_R (zr_Reader (zr_s (zr_R (zr_s (zr_R (zr_Told (t := 1) (by decide) (zr_s hz)) (by omega))) (by omega)))) (by omega)) dS_init_35 kl11_27 ly_60 (by omega) (by omega) ?_
  show AW _ _ _ _ _ _ _ _ _ _ _ _ 61
  refine a_dup dS_init_38 rfl ?_
  refine a_callN (Q' := m_res none (m_up I 1 3 (-1)) J (rfCourse60 (m_up (rfReader (m_up (m_up (rfTold R 1) 0 0 (some 1)) 0 1 (some 39))) 0 2 (some 40)))) (as := []) (st := [.ref 60, .ref 0]) dS_init_39 ml11_29 rfl (Nat.le_of_ble_eq_true rfl) (Nat.le_of_ble_eq_true rfl) rfl (by omega) (by omega) (c_Course_init60 (zr_s (zr_R (zr_Reader (zr_s (zr_R (zr_s (zr_R (zr_Told (t := 1) (by decide) (zr_s hz)) (by omega))) (by omega)))) (by omega)))) (m_go ?_)
  show AW _ _ _ _ _ _ _ _ [.ref 60, .ref 0] _ _ _ _
  refine a_puta dS_init_42 fl11_30 rfl rfl (fun _ => ⟨rfl, _, rfl, rfl⟩) ly_0 (by omega) ?_
  refine a_aload_n 0 dS_init_45 rfl rfl ?_
  refine a_newZ (zr_R (zr_Course60 (zr_s (zr_R (zr_Reader (zr_s (zr_R (zr_s (zr_R (zr_Told (t := 1) (by decide) (zr_s hz)) (by omega))) (by omega)))) (by omega)))) (by omega)) dS_init_46 kl11_34 ly_64 (by omega) (by omega) ?_
  show AW _ _ _ _ _ _ _ _ _ _ _ _ 65
  refine a_dup dS_init_49 rfl ?_
  refine a_callN (Q' := m_res none (m_up I 1 3 (-1)) J (rfOrders (m_up (rfCourse60 (m_up (rfReader (m_up (m_up (rfTold R 1) 0 0 (some 1)) 0 1 (some 39))) 0 2 (some 40))) 0 3 (some 60)))) (as := []) (st := [.ref 64, .ref 0]) dS_init_50 ml11_36 rfl (Nat.le_of_ble_eq_true rfl) (Nat.le_of_ble_eq_true rfl) rfl (by omega) (by omega) (c_Orders_init (zr_s (zr_R (zr_Course60 (zr_s (zr_R (zr_Reader (zr_s (zr_R (zr_s (zr_R (zr_Told (t := 1) (by decide) (zr_s hz)) (by omega))) (by omega)))) (by omega)))) (by omega)))) (m_go ?_)
  show AW _ _ _ _ _ _ _ _ [.ref 64, .ref 0] _ _ _ _
  refine a_puta dS_init_53 fl11_37 rfl rfl (fun _ => ⟨rfl, _, rfl, rfl⟩) ly_0 (by omega) ?_
  refine a_aload_n 0 dS_init_56 rfl rfl ?_
  refine a_newZ (zr_R (zr_Orders (zr_s (zr_R (zr_Course60 (zr_s (zr_R (zr_Reader (zr_s (zr_R (zr_s (zr_R (zr_Told (t := 1) (by decide) (zr_s hz)) (by omega))) (by omega)))) (by omega)))) (by omega)))) (by omega)) dS_init_57 kl11_41 ly_80 (by omega) (by omega) ?_
  show AW _ _ _ _ _ _ _ _ _ _ _ _ 81
  refine a_dup dS_init_60 rfl ?_
  refine a_callN (Q' := m_res none (m_up I 1 3 (-1)) J (rfRacks (m_up (rfOrders (m_up (rfCourse60 (m_up (rfReader (m_up (m_up (rfTold R 1) 0 0 (some 1)) 0 1 (some 39))) 0 2 (some 40))) 0 3 (some 60))) 0 4 (some 64)))) (as := []) (st := [.ref 80, .ref 0]) dS_init_61 ml11_43 rfl (Nat.le_of_ble_eq_true rfl) (Nat.le_of_ble_eq_true rfl) rfl (by omega) (by omega) (c_Racks_init (zr_s (zr_R (zr_Orders (zr_s (zr_R (zr_Course60 (zr_s (zr_R (zr_Reader (zr_s (zr_R (zr_s (zr_R (zr_Told (t := 1) (by decide) (zr_s hz)) (by omega))) (by omega)))) (by omega)))) (by omega)))) (by omega)))) (m_go ?_)
  show AW _ _ _ _ _ _ _ _ [.ref 80, .ref 0] _ _ _ _
  refine a_puta dS_init_64 fl11_44 rfl rfl (fun _ => ⟨rfl, _, rfl, rfl⟩) ly_0 (by omega) ?_
  refine a_aload_n 0 dS_init_67 rfl rfl ?_
  refine a_newZ (zr_R (zr_Racks (zr_s (zr_R (zr_Orders (zr_s (zr_R (zr_Course60 (zr_s (zr_R (zr_Reader (zr_s (zr_R (zr_s (zr_R (zr_Told (t := 1) (by decide) (zr_s hz)) (by omega))) (by omega)))) (by omega)))) (by omega)))) (by omega)))) (by omega)) dS_init_68 kl11_48 ly_81 (by omega) (by omega) ?_
  show AW _ _ _ _ _ _ _ _ _ _ _ _ 82
  refine a_dup dS_init_71 rfl ?_
  refine a_callN (Q' := m_res none (m_up I 1 3 (-1)) J (rfBags (m_up (rfRacks (m_up (rfOrders (m_up (rfCourse60 (m_up (rfReader (m_up (m_up (rfTold R 1) 0 0 (some 1)) 0 1 (some 39))) 0 2 (some 40))) 0 3 (some 60))) 0 4 (some 64))) 0 5 (some 80)))) (as := []) (st := [.ref 81, .ref 0]) dS_init_72 ml11_50 rfl (Nat.le_of_ble_eq_true rfl) (Nat.le_of_ble_eq_true rfl) rfl (by omega) (by omega) (c_Bags_init (zr_s (zr_R (zr_Racks (zr_s (zr_R (zr_Orders (zr_s (zr_R (zr_Course60 (zr_s (zr_R (zr_Reader (zr_s (zr_R (zr_s (zr_R (zr_Told (t := 1) (by decide) (zr_s hz)) (by omega))) (by omega)))) (by omega)))) (by omega)))) (by omega)))) (by omega)))) (m_go ?_)
  show AW _ _ _ _ _ _ _ _ [.ref 81, .ref 0] _ _ _ _
  refine a_puta dS_init_75 fl11_51 rfl rfl (fun _ => ⟨rfl, _, rfl, rfl⟩) ly_0 (by omega) ?_
  refine a_aload_n 0 dS_init_78 rfl rfl ?_
  refine a_newZ (zr_R (zr_Bags (zr_s (zr_R (zr_Racks (zr_s (zr_R (zr_Orders (zr_s (zr_R (zr_Course60 (zr_s (zr_R (zr_Reader (zr_s (zr_R (zr_s (zr_R (zr_Told (t := 1) (by decide) (zr_s hz)) (by omega))) (by omega)))) (by omega)))) (by omega)))) (by omega)))) (by omega)))) (by omega)) dS_init_79 kl11_55 ly_85 (by omega) (by omega) ?_
  show AW _ _ _ _ _ _ _ _ _ _ _ _ 86
  refine a_dup dS_init_82 rfl ?_
  refine a_callN (Q' := m_res none (m_up I 1 3 (-1)) J (rfSlips (m_up (rfBags (m_up (rfRacks (m_up (rfOrders (m_up (rfCourse60 (m_up (rfReader (m_up (m_up (rfTold R 1) 0 0 (some 1)) 0 1 (some 39))) 0 2 (some 40))) 0 3 (some 60))) 0 4 (some 64))) 0 5 (some 80))) 0 6 (some 81)))) (as := []) (st := [.ref 85, .ref 0]) dS_init_83 ml11_57 rfl (Nat.le_of_ble_eq_true rfl) (Nat.le_of_ble_eq_true rfl) rfl (by omega) (by omega) (c_Slips_init (zr_s (zr_R (zr_Bags (zr_s (zr_R (zr_Racks (zr_s (zr_R (zr_Orders (zr_s (zr_R (zr_Course60 (zr_s (zr_R (zr_Reader (zr_s (zr_R (zr_s (zr_R (zr_Told (t := 1) (by decide) (zr_s hz)) (by omega))) (by omega)))) (by omega)))) (by omega)))) (by omega)))) (by omega)))) (by omega)))) (m_go ?_)
  show AW _ _ _ _ _ _ _ _ [.ref 85, .ref 0] _ _ _ _
  refine a_puta dS_init_86 fl11_58 rfl rfl (fun _ => ⟨rfl, _, rfl, rfl⟩) ly_0 (by omega) ?_
  refine a_aload_n 0 dS_init_89 rfl rfl ?_
  refine a_newZ (zr_R (zr_Slips (zr_s (zr_R (zr_Bags (zr_s (zr_R (zr_Racks (zr_s (zr_R (zr_Orders (zr_s (zr_R (zr_Course60 (zr_s (zr_R (zr_Reader (zr_s (zr_R (zr_s (zr_R (zr_Told (t := 1) (by decide) (zr_s hz)) (by omega))) (by omega)))) (by omega)))) (by omega)))) (by omega)))) (by omega)))) (by omega)))) (by omega)) dS_init_90 kl11_62 ly_92 (by omega) (by omega) ?_
  show AW _ _ _ _ _ _ _ _ _ _ _ _ 93
  refine a_dup dS_init_93 rfl ?_
  refine a_callN (Q' := m_res none (m_up I 1 3 (-1)) J (rfChances (m_up (rfSlips (m_up (rfBags (m_up (rfRacks (m_up (rfOrders (m_up (rfCourse60 (m_up (rfReader (m_up (m_up (rfTold R 1) 0 0 (some 1)) 0 1 (some 39))) 0 2 (some 40))) 0 3 (some 60))) 0 4 (some 64))) 0 5 (some 80))) 0 6 (some 81))) 0 7 (some 85)))) (as := []) (st := [.ref 92, .ref 0]) dS_init_94 ml11_64 rfl (Nat.le_of_ble_eq_true rfl) (Nat.le_of_ble_eq_true rfl) rfl (by omega) (by omega) (c_Chances_init (zr_s (zr_R (zr_Slips (zr_s (zr_R (zr_Bags (zr_s (zr_R (zr_Racks (zr_s (zr_R (zr_Orders (zr_s (zr_R (zr_Course60 (zr_s (zr_R (zr_Reader (zr_s (zr_R (zr_s (zr_R (zr_Told (t := 1) (by decide) (zr_s hz)) (by omega))) (by omega)))) (by omega)))) (by omega)))) (by omega)))) (by omega)))) (by omega)))) (by omega)))) (m_go ?_)
  show AW _ _ _ _ _ _ _ _ [.ref 92, .ref 0] _ _ _ _
  refine a_puta dS_init_97 fl11_65 rfl rfl (fun _ => ⟨rfl, _, rfl, rfl⟩) ly_0 (by omega) ?_
  exact a_vret dS_init_100 rfl ⟨rfl, rfl, rfl, rfl⟩
theorem zr_S {I : mI} {J : mJ} {R : mR} (hz : zr I J R 1) : zr (m_up I 1 3 (-1)) J (rfS R) 95 := by
  unfold rfS
  exact (zr_R (zr_Chances (zr_s (zr_R (zr_Slips (zr_s (zr_R (zr_Bags (zr_s (zr_R (zr_Racks (zr_s (zr_R (zr_Orders (zr_s (zr_R (zr_Course60 (zr_s (zr_R (zr_Reader (zr_s (zr_R (zr_s (zr_R (zr_Told (t := 1) (by decide) (zr_s hz)) (by omega))) (by omega)))) (by omega)))) (by omega)))) (by omega)))) (by omega)))) (by omega)))) (by omega)))) (by omega))
def rfM (R : mR) : mR := (m_up (m_up (m_up (m_up (m_up (m_up (m_up (m_up (m_up (m_up (m_up (m_up (m_up (m_up (m_up (m_up (m_up (m_up (m_up (m_up (m_up (m_up (m_up (m_up (m_up (m_up R 95 1 (some 96)) 95 2 (some 97)) 95 3 (some 98)) 95 4 (some 99)) 95 5 (some 100)) 95 6 (some 101)) 95 7 (some 102)) 95 8 (some 103)) 95 18 (some 104)) 95 19 (some 105)) 95 26 (some 106)) 95 27 (some 107)) 95 28 (some 108)) 95 29 (some 109)) 95 38 (some 110)) 95 41 (some 111)) 95 42 (some 112)) 95 43 (some 113)) 95 44 (some 114)) 95 45 (some 115)) 95 46 (some 116)) 95 48 (some 117)) 95 50 (some 118)) 95 52 (some 119)) 95 53 (some 120)) 95 54 (some 121))
theorem c_M_init {S : Nat × (Nat → Int32)} {d : Nat} {I : mI} {J : mJ} {R : mR} (hz : zr I J R 96) : RUN S (d + 1) YM_init [.ref 95] I J R 96 none (m_up I 99 0 (-1)) J (rfM R) 122 := by
  show AW S _ YM_init 96 122 _ 0 [(0, .ref 95)] [] I J R 96
  refine a_aload_n 0 dM_init_0 rfl rfl ?_
  refine a_objI dM_init_1 (m_in (i := 1185) (by decide +kernel) rfl) (Nat.le_of_ble_eq_true rfl) ?_
  refine a_aload_n 0 dM_init_4 rfl rfl ?_
  refine a_sipushN (a := 2400) dM_init_5 (by decide) ?_
  refine a_newaZ (ty := 51) (N := 2400) hz dM_init_8 (by decide) ly_96 (by decide) (by decide) (by decide) (by omega) (by omega) ?_
  show AW _ _ _ _ _ _ _ _ _ _ _ _ 97
  refine a_puta dM_init_10 fl12_7 rfl rfl (fun _ => ⟨rfl, _, rfl, rfl⟩) ly_95 (by omega) ?_
  refine a_aload_n 0 dM_init_13 rfl rfl ?_
  refine a_iconstN (a := 4) dM_init_14 (by decide) ?_
  refine a_newaZ (ty := 50) (N := 4) (zr_R (zr_s hz) (by omega)) dM_init_15 (by decide) ly_97 (by decide) (by decide) (by decide) (by omega) (by omega) ?_
  show AW _ _ _ _ _ _ _ _ _ _ _ _ 98
  refine a_puta dM_init_17 fl12_13 rfl rfl (fun _ => ⟨rfl, _, rfl, rfl⟩) ly_95 (by omega) ?_
  refine a_aload_n 0 dM_init_20 rfl rfl ?_
  refine a_iconstN (a := 4) dM_init_21 (by decide) ?_
  refine a_newaZ (ty := 50) (N := 4) (zr_R (zr_s (zr_R (zr_s hz) (by omega))) (by omega)) dM_init_22 (by decide) ly_98 (by decide) (by decide) (by decide) (by omega) (by omega) ?_
  show AW _ _ _ _ _ _ _ _ _ _ _ _ 99
  refine a_puta dM_init_24 fl12_17 rfl rfl (fun _ => ⟨rfl, _, rfl, rfl⟩) ly_95 (by omega) ?_
  refine a_aload_n 0 dM_init_27 rfl rfl ?_
  refine a_iconstN (a := 4) dM_init_28 (by decide) ?_
  refine a_newaZ (ty := 50) (N := 4) (zr_R (zr_s (zr_R (zr_s (zr_R (zr_s hz) (by omega))) (by omega))) (by omega)) dM_init_29 (by decide) ly_99 (by decide) (by decide) (by decide) (by omega) (by omega) ?_
  show AW _ _ _ _ _ _ _ _ _ _ _ _ 100
  refine a_puta dM_init_31 fl12_20 rfl rfl (fun _ => ⟨rfl, _, rfl, rfl⟩) ly_95 (by omega) ?_
  refine a_aload_n 0 dM_init_34 rfl rfl ?_
  refine a_bipushN (a := 12) dM_init_35 (by decide) ?_
  refine a_newaZ (ty := 50) (N := 12) (zr_R (zr_s (zr_R (zr_s (zr_R (zr_s (zr_R (zr_s hz) (by omega))) (by omega))) (by omega))) (by omega)) dM_init_37 (by decide) ly_100 (by decide) (by decide) (by decide) (by omega) (by omega) ?_
  show AW _ _ _ _ _ _ _ _ _ _ _ _ 101
  refine a_puta dM_init_39 fl12_23 rfl rfl (fun _ => ⟨rfl, _, rfl, rfl⟩) ly_95 (by omega) ?_
  refine a_aload_n 0 dM_init_42 rfl rfl ?_
  refine a_sipushN (a := 600) dM_init_43 (by decide) ?_
  refine a_newaZ (ty := 50) (N := 600) (zr_R (zr_s (zr_R (zr_s (zr_R (zr_s (zr_R (zr_s (zr_R (zr_s hz) (by omega))) (by omega))) (by omega))) (by omega))) (by omega)) dM_init_46 (by decide) ly_101 (by decide) (by decide) (by decide) (by omega) (by omega) ?_
  show AW _ _ _ _ _ _ _ _ _ _ _ _ 102
  refine a_puta dM_init_48 fl12_26 rfl rfl (fun _ => ⟨rfl, _, rfl, rfl⟩) ly_95 (by omega) ?_
  refine a_aload_n 0 dM_init_51 rfl rfl ?_
  refine a_sipushN (a := 968) dM_init_52 (by decide) ?_
  refine a_newaZ (ty := 50) (N := 968) (zr_R (zr_s (zr_R (zr_s (zr_R (zr_s (zr_R (zr_s (zr_R (zr_s (zr_R (zr_s hz) (by omega))) (by omega))) (by omega))) (by omega))) (by omega))) (by omega)) dM_init_55 (by decide) ly_102 (by decide) (by decide) (by decide) (by omega) (by omega) ?_
  show AW _ _ _ _ _ _ _ _ _ _ _ _ 103
  refine a_puta dM_init_57 fl12_29 rfl rfl (fun _ => ⟨rfl, _, rfl, rfl⟩) ly_95 (by omega) ?_
  refine a_aload_n 0 dM_init_60 rfl rfl ?_
  refine a_sipushN (a := 136) dM_init_61 (by decide) ?_
  refine a_newaZ (ty := 50) (N := 136) (zr_R (zr_s (zr_R (zr_s (zr_R (zr_s (zr_R (zr_s (zr_R (zr_s (zr_R (zr_s (zr_R (zr_s hz) (by omega))) (by omega))) (by omega))) (by omega))) (by omega))) (by omega))) (by omega)) dM_init_64 (by decide) ly_103 (by decide) (by decide) (by decide) (by omega) (by omega) ?_
  show AW _ _ _ _ _ _ _ _ _ _ _ _ 104
  refine a_puta dM_init_66 fl12_32 rfl rfl (fun _ => ⟨rfl, _, rfl, rfl⟩) ly_95 (by omega) ?_
  refine a_aload_n 0 dM_init_69 rfl rfl ?_
  refine a_bipushN (a := 121) dM_init_70 (by decide) ?_
  refine a_newaZ (ty := 50) (N := 121) (zr_R (zr_s (zr_R (zr_s (zr_R (zr_s (zr_R (zr_s (zr_R (zr_s (zr_R (zr_s (zr_R (zr_s (zr_R (zr_s hz) (by omega))) (by omega))) (by omega))) (by omega))) (by omega))) (by omega))) (by omega))) (by omega)) dM_init_72 (by decide) ly_104 (by decide) (by decide) (by decide) (by omega) (by omega) ?_
  show AW _ _ _ _ _ _ _ _ _ _ _ _ 105
  refine a_puta dM_init_74 fl12_35 rfl rfl (fun _ => ⟨rfl, _, rfl, rfl⟩) ly_95 (by omega) ?_
  refine a_aload_n 0 dM_init_77 rfl rfl ?_
  refine a_iconstN (a := 3) dM_init_78 (by decide) ?_
  refine a_newaZ (ty := 50) (N := 3) (zr_R (zr_s (zr_R (zr_s (zr_R (zr_s (zr_R (zr_s (zr_R (zr_s (zr_R (zr_s (zr_R (zr_s (zr_R (zr_s (zr_R (zr_s hz) (by omega))) (by omega))) (by omega))) (by omega))) (by omega))) (by omega))) (by omega))) (by omega))) (by omega)) dM_init_79 (by decide) ly_105 (by decide) (by decide) (by decide) (by omega) (by omega) ?_
  show AW _ _ _ _ _ _ _ _ _ _ _ _ 106
  refine a_puta dM_init_81 fl12_38 rfl rfl (fun _ => ⟨rfl, _, rfl, rfl⟩) ly_95 (by omega) ?_
  refine a_aload_n 0 dM_init_84 rfl rfl ?_
  refine a_bipushN (a := 10) dM_init_85 (by decide) ?_
  refine a_newaZ (ty := 50) (N := 10) (zr_R (zr_s (zr_R (zr_s (zr_R (zr_s (zr_R (zr_s (zr_R (zr_s (zr_R (zr_s (zr_R (zr_s (zr_R (zr_s (zr_R (zr_s (zr_R (zr_s hz) (by omega))) (by omega))) (by omega))) (by omega))) (by omega))) (by omega))) (by omega))) (by omega))) (by omega))) (by omega)) dM_init_87 (by decide) ly_106 (by decide) (by decide) (by decide) (by omega) (by omega) ?_
  show AW _ _ _ _ _ _ _ _ _ _ _ _ 107
  refine a_puta dM_init_89 fl12_41 rfl rfl (fun _ => ⟨rfl, _, rfl, rfl⟩) ly_95 (by omega) ?_
  refine a_aload_n 0 dM_init_92 rfl rfl ?_
  refine a_bipushN (a := 6) dM_init_93 (by decide) ?_
  refine a_newaZ (ty := 50) (N := 6) (zr_R (zr_s (zr_R (zr_s (zr_R (zr_s (zr_R (zr_s (zr_R (zr_s (zr_R (zr_s (zr_R (zr_s (zr_R (zr_s (zr_R (zr_s (zr_R (zr_s (zr_R (zr_s hz) (by omega))) (by omega))) (by omega))) (by omega))) (by omega))) (by omega))) (by omega))) (by omega))) (by omega))) (by omega))) (by omega)) dM_init_95 (by decide) ly_107 (by decide) (by decide) (by decide) (by omega) (by omega) ?_
  show AW _ _ _ _ _ _ _ _ _ _ _ _ 108
  refine a_puta dM_init_97 fl12_44 rfl rfl (fun _ => ⟨rfl, _, rfl, rfl⟩) ly_95 (by omega) ?_
  refine a_aload_n 0 dM_init_100 rfl rfl ?_
  refine a_bipushN (a := 6) dM_init_101 (by decide) ?_
  refine a_newaZ (ty := 50) (N := 6) (zr_R (zr_s (zr_R (zr_s (zr_R (zr_s (zr_R (zr_s (zr_R (zr_s (zr_R (zr_s (zr_R (zr_s (zr_R (zr_s (zr_R (zr_s (zr_R (zr_s (zr_R (zr_s (zr_R (zr_s hz) (by omega))) (by omega))) (by omega))) (by omega))) (by omega))) (by omega))) (by omega))) (by omega))) (by omega))) (by omega))) (by omega))) (by omega)) dM_init_103 (by decide) ly_108 (by decide) (by decide) (by decide) (by omega) (by omega) ?_
  show AW _ _ _ _ _ _ _ _ _ _ _ _ 109
  refine a_puta dM_init_105 fl12_47 rfl rfl (fun _ => ⟨rfl, _, rfl, rfl⟩) ly_95 (by omega) ?_
  refine a_aload_n 0 dM_init_108 rfl rfl ?_
  refine a_bipushN (a := 6) dM_init_109 (by decide) ?_
  refine a_newaZ (ty := 50) (N := 6) (zr_R (zr_s (zr_R (zr_s (zr_R (zr_s (zr_R (zr_s (zr_R (zr_s (zr_R (zr_s (zr_R (zr_s (zr_R (zr_s (zr_R (zr_s (zr_R (zr_s (zr_R (zr_s (zr_R (zr_s (zr_R (zr_s hz) (by omega))) (by omega))) (by omega))) (by omega))) (by omega))) (by omega))) (by omega))) (by omega))) (by omega))) (by omega))) (by omega))) (by omega))) (by omega)) dM_init_111 (by decide) ly_109 (by decide) (by decide) (by decide) (by omega) (by omega) ?_
  show AW _ _ _ _ _ _ _ _ _ _ _ _ 110
  refine a_puta dM_init_113 fl12_50 rfl rfl (fun _ => ⟨rfl, _, rfl, rfl⟩) ly_95 (by omega) ?_
  refine a_aload_n 0 dM_init_116 rfl rfl ?_
  refine a_sipushN (a := 5120) dM_init_117 (by decide) ?_
  refine a_newaZ (ty := 50) (N := 5120) (zr_R (zr_s (zr_R (zr_s (zr_R (zr_s (zr_R (zr_s (zr_R (zr_s (zr_R (zr_s (zr_R (zr_s (zr_R (zr_s (zr_R (zr_s (zr_R (zr_s (zr_R (zr_s (zr_R (zr_s (zr_R (zr_s (zr_R (zr_s hz) (by omega))) (by omega))) (by omega))) (by omega))) (by omega))) (by omega))) (by omega))) (by omega))) (by omega))) (by omega))) (by omega))) (by omega))) (by omega))) (by omega)) dM_init_120 (by decide) ly_110 (by decide) (by decide) (by decide) (by omega) (by omega) ?_
  show AW _ _ _ _ _ _ _ _ _ _ _ _ 111
  refine a_puta dM_init_122 fl12_53 rfl rfl (fun _ => ⟨rfl, _, rfl, rfl⟩) ly_95 (by omega) ?_
  refine a_aload_n 0 dM_init_125 rfl rfl ?_
  refine a_sipushN (a := 1024) dM_init_126 (by decide) ?_
  refine a_newaZ (ty := 52) (N := 1024) (zr_R (zr_s (zr_R (zr_s (zr_R (zr_s (zr_R (zr_s (zr_R (zr_s (zr_R (zr_s (zr_R (zr_s (zr_R (zr_s (zr_R (zr_s (zr_R (zr_s (zr_R (zr_s (zr_R (zr_s (zr_R (zr_s (zr_R (zr_s (zr_R (zr_s hz) (by omega))) (by omega))) (by omega))) (by omega))) (by omega))) (by omega))) (by omega))) (by omega))) (by omega))) (by omega))) (by omega))) (by omega))) (by omega))) (by omega))) (by omega)) dM_init_129 (by decide) ly_111 (by decide) (by decide) (by decide) (by omega) (by omega) ?_
  show AW _ _ _ _ _ _ _ _ _ _ _ _ 112
  refine a_puta dM_init_131 fl12_56 rfl rfl (fun _ => ⟨rfl, _, rfl, rfl⟩) ly_95 (by omega) ?_
  refine a_aload_n 0 dM_init_134 rfl rfl ?_
  refine a_sipushN (a := 1024) dM_init_135 (by decide) ?_
  refine a_newaZ (ty := 50) (N := 1024) (zr_R (zr_s (zr_R (zr_s (zr_R (zr_s (zr_R (zr_s (zr_R (zr_s (zr_R (zr_s (zr_R (zr_s (zr_R (zr_s (zr_R (zr_s (zr_R (zr_s (zr_R (zr_s (zr_R (zr_s (zr_R (zr_s (zr_R (zr_s (zr_R (zr_s (zr_R (zr_s hz) (by omega))) (by omega))) (by omega))) (by omega))) (by omega))) (by omega))) (by omega))) (by omega))) (by omega))) (by omega))) (by omega))) (by omega))) (by omega))) (by omega))) (by omega))) (by omega)) dM_init_138 (by decide) ly_112 (by decide) (by decide) (by decide) (by omega) (by omega) ?_
  show AW _ _ _ _ _ _ _ _ _ _ _ _ 113
  refine a_puta dM_init_140 fl12_60 rfl rfl (fun _ => ⟨rfl, _, rfl, rfl⟩) ly_95 (by omega) ?_
  refine a_aload_n 0 dM_init_143 rfl rfl ?_
  refine a_bipushN (a := 10) dM_init_144 (by decide) ?_
  refine a_newaZ (ty := 50) (N := 10) (zr_R (zr_s (zr_R (zr_s (zr_R (zr_s (zr_R (zr_s (zr_R (zr_s (zr_R (zr_s (zr_R (zr_s (zr_R (zr_s (zr_R (zr_s (zr_R (zr_s (zr_R (zr_s (zr_R (zr_s (zr_R (zr_s (zr_R (zr_s (zr_R (zr_s (zr_R (zr_s (zr_R (zr_s hz) (by omega))) (by omega))) (by omega))) (by omega))) (by omega))) (by omega))) (by omega))) (by omega))) (by omega))) (by omega))) (by omega))) (by omega))) (by omega))) (by omega))) (by omega))) (by omega))) (by omega)) dM_init_146 (by decide) ly_113 (by decide) (by decide) (by decide) (by omega) (by omega) ?_
  show AW _ _ _ _ _ _ _ _ _ _ _ _ 114
  refine a_puta dM_init_148 fl12_63 rfl rfl (fun _ => ⟨rfl, _, rfl, rfl⟩) ly_95 (by omega) ?_
  refine a_aload_n 0 dM_init_151 rfl rfl ?_
  refine a_sipushN (a := 1024) dM_init_152 (by decide) ?_
  refine a_newaZ (ty := 52) (N := 1024) (zr_R (zr_s (zr_R (zr_s (zr_R (zr_s (zr_R (zr_s (zr_R (zr_s (zr_R (zr_s (zr_R (zr_s (zr_R (zr_s (zr_R (zr_s (zr_R (zr_s (zr_R (zr_s (zr_R (zr_s (zr_R (zr_s (zr_R (zr_s (zr_R (zr_s (zr_R (zr_s (zr_R (zr_s (zr_R (zr_s hz) (by omega))) (by omega))) (by omega))) (by omega))) (by omega))) (by omega))) (by omega))) (by omega))) (by omega))) (by omega))) (by omega))) (by omega))) (by omega))) (by omega))) (by omega))) (by omega))) (by omega))) (by omega)) dM_init_155 (by decide) ly_114 (by decide) (by decide) (by decide) (by omega) (by omega) ?_
  show AW _ _ _ _ _ _ _ _ _ _ _ _ 115
  refine a_puta dM_init_157 fl12_66 rfl rfl (fun _ => ⟨rfl, _, rfl, rfl⟩) ly_95 (by omega) ?_
  refine a_aload_n 0 dM_init_160 rfl rfl ?_
  refine a_sipushN (a := 1024) dM_init_161 (by decide) ?_
  refine a_newaZ (ty := 52) (N := 1024) (zr_R (zr_s (zr_R (zr_s (zr_R (zr_s (zr_R (zr_s (zr_R (zr_s (zr_R (zr_s (zr_R (zr_s (zr_R (zr_s (zr_R (zr_s (zr_R (zr_s (zr_R (zr_s (zr_R (zr_s (zr_R (zr_s (zr_R (zr_s (zr_R (zr_s (zr_R (zr_s (zr_R (zr_s (zr_R (zr_s (zr_R (zr_s hz) (by omega))) (by omega))) (by omega))) (by omega))) (by omega))) (by omega))) (by omega))) (by omega))) (by omega))) (by omega))) (by omega))) (by omega))) (by omega))) (by omega))) (by omega))) (by omega))) (by omega))) (by omega))) (by omega)) dM_init_164 (by decide) ly_115 (by decide) (by decide) (by decide) (by omega) (by omega) ?_
  show AW _ _ _ _ _ _ _ _ _ _ _ _ 116
  refine a_puta dM_init_166 fl12_69 rfl rfl (fun _ => ⟨rfl, _, rfl, rfl⟩) ly_95 (by omega) ?_
  refine a_aload_n 0 dM_init_169 rfl rfl ?_
  refine a_bipushN (a := 121) dM_init_170 (by decide) ?_
  refine a_newaZ (ty := 50) (N := 121) (zr_R (zr_s (zr_R (zr_s (zr_R (zr_s (zr_R (zr_s (zr_R (zr_s (zr_R (zr_s (zr_R (zr_s (zr_R (zr_s (zr_R (zr_s (zr_R (zr_s (zr_R (zr_s (zr_R (zr_s (zr_R (zr_s (zr_R (zr_s (zr_R (zr_s (zr_R (zr_s (zr_R (zr_s (zr_R (zr_s (zr_R (zr_s (zr_R (zr_s hz) (by omega))) (by omega))) (by omega))) (by omega))) (by omega))) (by omega))) (by omega))) (by omega))) (by omega))) (by omega))) (by omega))) (by omega))) (by omega))) (by omega))) (by omega))) (by omega))) (by omega))) (by omega))) (by omega))) (by omega)) dM_init_172 (by decide) ly_116 (by decide) (by decide) (by decide) (by omega) (by omega) ?_
  show AW _ _ _ _ _ _ _ _ _ _ _ _ 117
  refine a_puta dM_init_174 fl12_72 rfl rfl (fun _ => ⟨rfl, _, rfl, rfl⟩) ly_95 (by omega) ?_
  refine a_aload_n 0 dM_init_177 rfl rfl ?_
  refine a_bipushN (a := 61) dM_init_178 (by decide) ?_
  refine a_newaZ (ty := 50) (N := 61) (zr_R (zr_s (zr_R (zr_s (zr_R (zr_s (zr_R (zr_s (zr_R (zr_s (zr_R (zr_s (zr_R (zr_s (zr_R (zr_s (zr_R (zr_s (zr_R (zr_s (zr_R (zr_s (zr_R (zr_s (zr_R (zr_s (zr_R (zr_s (zr_R (zr_s (zr_R (zr_s (zr_R (zr_s (zr_R (zr_s (zr_R (zr_s (zr_R (zr_s (zr_R (zr_s hz) (by omega))) (by omega))) (by omega))) (by omega))) (by omega))) (by omega))) (by omega))) (by omega))) (by omega))) (by omega))) (by omega))) (by omega))) (by omega))) (by omega))) (by omega))) (by omega))) (by omega))) (by omega))) (by omega))) (by omega))) (by omega)) dM_init_180 (by decide) ly_117 (by decide) (by decide) (by decide) (by omega) (by omega) ?_
  show AW _ _ _ _ _ _ _ _ _ _ _ _ 118
  refine a_puta dM_init_182 fl12_75 rfl rfl (fun _ => ⟨rfl, _, rfl, rfl⟩) ly_95 (by omega) ?_
  refine a_aload_n 0 dM_init_185 rfl rfl ?_
  refine a_sipushN (a := 366) dM_init_186 (by decide) ?_
  refine a_newaZ (ty := 50) (N := 366) (zr_R (zr_s (zr_R (zr_s (zr_R (zr_s (zr_R (zr_s (zr_R (zr_s (zr_R (zr_s (zr_R (zr_s (zr_R (zr_s (zr_R (zr_s (zr_R (zr_s (zr_R (zr_s (zr_R (zr_s (zr_R (zr_s (zr_R (zr_s (zr_R (zr_s (zr_R (zr_s (zr_R (zr_s (zr_R (zr_s (zr_R (zr_s (zr_R (zr_s (zr_R (zr_s (zr_R (zr_s hz) (by omega))) (by omega))) (by omega))) (by omega))) (by omega))) (by omega))) (by omega))) (by omega))) (by omega))) (by omega))) (by omega))) (by omega))) (by omega))) (by omega))) (by omega))) (by omega))) (by omega))) (by omega))) (by omega))) (by omega))) (by omega))) (by omega)) dM_init_189 (by decide) ly_118 (by decide) (by decide) (by decide) (by omega) (by omega) ?_
  show AW _ _ _ _ _ _ _ _ _ _ _ _ 119
  refine a_puta dM_init_191 fl12_78 rfl rfl (fun _ => ⟨rfl, _, rfl, rfl⟩) ly_95 (by omega) ?_
  refine a_aload_n 0 dM_init_194 rfl rfl ?_
  refine a_bipushN (a := 10) dM_init_195 (by decide) ?_
  refine a_newaZ (ty := 50) (N := 10) (zr_R (zr_s (zr_R (zr_s (zr_R (zr_s (zr_R (zr_s (zr_R (zr_s (zr_R (zr_s (zr_R (zr_s (zr_R (zr_s (zr_R (zr_s (zr_R (zr_s (zr_R (zr_s (zr_R (zr_s (zr_R (zr_s (zr_R (zr_s (zr_R (zr_s (zr_R (zr_s (zr_R (zr_s (zr_R (zr_s (zr_R (zr_s (zr_R (zr_s (zr_R (zr_s (zr_R (zr_s (zr_R (zr_s hz) (by omega))) (by omega))) (by omega))) (by omega))) (by omega))) (by omega))) (by omega))) (by omega))) (by omega))) (by omega))) (by omega))) (by omega))) (by omega))) (by omega))) (by omega))) (by omega))) (by omega))) (by omega))) (by omega))) (by omega))) (by omega))) (by omega))) (by omega)) dM_init_197 (by decide) ly_119 (by decide) (by decide) (by decide) (by omega) (by omega) ?_
  show AW _ _ _ _ _ _ _ _ _ _ _ _ 120
  refine a_puta dM_init_199 fl12_81 rfl rfl (fun _ => ⟨rfl, _, rfl, rfl⟩) ly_95 (by omega) ?_
  refine a_aload_n 0 dM_init_202 rfl rfl ?_
  refine a_bipushN (a := 6) dM_init_203 (by decide) ?_
  refine a_newaZ (ty := 50) (N := 6) (zr_R (zr_s (zr_R (zr_s (zr_R (zr_s (zr_R (zr_s (zr_R (zr_s (zr_R (zr_s (zr_R (zr_s (zr_R (zr_s (zr_R (zr_s (zr_R (zr_s (zr_R (zr_s (zr_R (zr_s (zr_R (zr_s (zr_R (zr_s (zr_R (zr_s (zr_R (zr_s (zr_R (zr_s (zr_R (zr_s (zr_R (zr_s (zr_R (zr_s (zr_R (zr_s (zr_R (zr_s (zr_R (zr_s (zr_R (zr_s hz) (by omega))) (by omega))) (by omega))) (by omega))) (by omega))) (by omega))) (by omega))) (by omega))) (by omega))) (by omega))) (by omega))) (by omega))) (by omega))) (by omega))) (by omega))) (by omega))) (by omega))) (by omega))) (by omega))) (by omega))) (by omega))) (by omega))) (by omega))) (by omega)) dM_init_205 (by decide) ly_120 (by decide) (by decide) (by decide) (by omega) (by omega) ?_
  show AW _ _ _ _ _ _ _ _ _ _ _ _ 121
  refine a_puta dM_init_207 fl12_84 rfl rfl (fun _ => ⟨rfl, _, rfl, rfl⟩) ly_95 (by omega) ?_
  refine a_aload_n 0 dM_init_210 rfl rfl ?_
  refine a_iconstN (a := 3) dM_init_211 (by decide) ?_
  refine a_newaZ (ty := 52) (N := 3) (zr_R (zr_s (zr_R (zr_s (zr_R (zr_s (zr_R (zr_s (zr_R (zr_s (zr_R (zr_s (zr_R (zr_s (zr_R (zr_s (zr_R (zr_s (zr_R (zr_s (zr_R (zr_s (zr_R (zr_s (zr_R (zr_s (zr_R (zr_s (zr_R (zr_s (zr_R (zr_s (zr_R (zr_s (zr_R (zr_s (zr_R (zr_s (zr_R (zr_s (zr_R (zr_s (zr_R (zr_s (zr_R (zr_s (zr_R (zr_s (zr_R (zr_s hz) (by omega))) (by omega))) (by omega))) (by omega))) (by omega))) (by omega))) (by omega))) (by omega))) (by omega))) (by omega))) (by omega))) (by omega))) (by omega))) (by omega))) (by omega))) (by omega))) (by omega))) (by omega))) (by omega))) (by omega))) (by omega))) (by omega))) (by omega))) (by omega))) (by omega)) dM_init_212 (by decide) ly_121 (by decide) (by decide) (by decide) (by omega) (by omega) ?_
  show AW _ _ _ _ _ _ _ _ _ _ _ _ 122
  refine a_puta dM_init_214 fl12_87 rfl rfl (fun _ => ⟨rfl, _, rfl, rfl⟩) ly_95 (by omega) ?_
  refine a_aload_n 0 dM_init_217 rfl rfl ?_
  refine a_geta (r := 99) dM_init_218 fl12_20 rfl ly_95 (by omega) rfl ?_
  refine a_iconstN (a := 0) dM_init_221 (by decide) ?_
  refine a_iconst (v := -1) dM_init_222 (by decide) ?_
  refine a_iastN (a := 0) dM_init_223 ly_99 (by omega) (by omega) (by decide) ?_
  exact a_vret dM_init_224 rfl ⟨rfl, rfl, rfl, rfl⟩
theorem zr_M {I : mI} {J : mJ} {R : mR} (hz : zr I J R 96) : zr (m_up I 99 0 (-1)) J (rfM R) 122 := by
  unfold rfM
  exact (zr_I (zr_R (zr_s (zr_R (zr_s (zr_R (zr_s (zr_R (zr_s (zr_R (zr_s (zr_R (zr_s (zr_R (zr_s (zr_R (zr_s (zr_R (zr_s (zr_R (zr_s (zr_R (zr_s (zr_R (zr_s (zr_R (zr_s (zr_R (zr_s (zr_R (zr_s (zr_R (zr_s (zr_R (zr_s (zr_R (zr_s (zr_R (zr_s (zr_R (zr_s (zr_R (zr_s (zr_R (zr_s (zr_R (zr_s (zr_R (zr_s (zr_R (zr_s (zr_R (zr_s hz) (by omega))) (by omega))) (by omega))) (by omega))) (by omega))) (by omega))) (by omega))) (by omega))) (by omega))) (by omega))) (by omega))) (by omega))) (by omega))) (by omega))) (by omega))) (by omega))) (by omega))) (by omega))) (by omega))) (by omega))) (by omega))) (by omega))) (by omega))) (by omega))) (by omega))) (by omega)) (by omega))
