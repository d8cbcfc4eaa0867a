theorem and31 (x : Int32) : ∃ c, c < 32 ∧ x &&& 31 = nI c := by
  refine ⟨x.toBitVec.toNat &&& 31, Nat.lt_of_le_of_lt Nat.and_le_right (by decide), ?_⟩
  apply Int32.toBitVec_inj.mp
  rw [Int32.toBitVec_and]
  apply BitVec.eq_of_toNat_eq
  rw [BitVec.toNat_and]
  show x.toBitVec.toNat &&& 31 = (BitVec.ofNat 32 (x.toBitVec.toNat &&& 31)).toNat
  rw [BitVec.toNat_ofNat, Nat.mod_eq_of_lt (Nat.lt_of_le_of_lt Nat.and_le_right (by decide))]
theorem law_loop {S : Nat × (Nat → Int32)} (hS : S.1 ≤ 3072) : ∀ m i (I : mI) (J : mJ) (R : mR) (n : Nat), i ≤ S.1 → S.1 < i + 6 * m → INV I R n → LW S 18 (lvL i) [] I J R n := by
  intro m
  induction m with
  | zero => intro i I J R n hi h0 _; omega
  | succ m ih =>
    intro i I J R n hi h0 h
    refine l_cut (fun _ => ?_)
    have hc := INV_cut h
    have hz : zr (cuM 0 I n) (cuM 0 J n) (cuM none R n) n := cu_zr
    generalize cuM 0 I n = I at hc hz ⊢
    generalize cuM 0 J n = J at hz ⊢
    generalize cuM none R n = R at hc hz ⊢
    refine l_iload_n 0 dL_18 rfl rfl ?_
    refine l_aload_n 3 dL_19 rfl rfl ?_
    refine l_slen (v := nI S.1) dL_20 rfl ?_
    refine l_bipush (v := nI 6) dL_21 rfl ?_
    refine l_isub dL_23 ?_
    refine l_icmp_gt (tgt := 1632) dL_24 (by decide) (fun c => ?_) (fun c => ?_)
    · refine l_iconst (v := 1) dL_1632 rfl ?_
      exact l_end dL_1633 h.n1.2
    · have t6 : (nI 6).toInt = 6 := rfl
      have es : (nI S.1 - nI 6).toInt = (S.1 : Int) - 6 := by
        rw [Int32.toInt_sub, nI_toInt (by omega), t6, Int.bmod_def]
        split <;> omega
      have hi6 : i + 6 ≤ S.1 := by
        rw [Int32.lt_iff_toInt_lt, es, nI_toInt (by omega)] at c
        omega
      have nx : ∀ I' J' R' n', INV I' R' n' → LW S 1626 (lvL i) [] I' J' R' n' := fun I' J' R' n' h' => by
        refine l_iinc (v := nI (i + 6)) (lv' := lvL (i + 6)) 0 dL_1626 rfl (Int32.ofNat_add i 6).symm (by decide) rfl ?_
        refine l_goto (tgt := 18) dL_1629 (by decide) ?_
        exact ih (i + 6) I' J' R' n' hi6 (by omega) h'
      refine l_aload_n 3 dL_27 rfl rfl ?_
      refine l_iload_n 0 dL_28 rfl rfl ?_
      refine l_sald dL_29 (vp_in_nI (by omega) (by omega)) ?_
      refine l_bipush (v := 31) dL_30 rfl ?_
      refine l_iand dL_32 ?_
      obtain ⟨w, hw, e⟩ := and31 (S.2 (nI i).toNatClampNeg)
      rw [e]
      match w, hw with
      | 0, _ => exact l_tableIn (off := 143) (tgt := 176) dL_33 (by decide) (by decide) (by decide) (by decide) (case_0 hS hi6 hc nx)
      | 1, _ => exact l_tableIn (off := 206) (tgt := 239) dL_33 (by decide) (by decide) (by decide) (by decide) (case_1 hS hi6 hc nx)
      | 2, _ => exact l_tableIn (off := 229) (tgt := 262) dL_33 (by decide) (by decide) (by decide) (by decide) (case_2 hS hi6 hc nx)
      | 3, _ => exact l_tableIn (off := 262) (tgt := 295) dL_33 (by decide) (by decide) (by decide) (by decide) (case_3 hS hi6 hc nx)
      | 4, _ => exact l_tableIn (off := 285) (tgt := 318) dL_33 (by decide) (by decide) (by decide) (by decide) (case_4 hS hi6 hc nx)
      | 5, _ => exact l_tableIn (off := 318) (tgt := 351) dL_33 (by decide) (by decide) (by decide) (by decide) (case_5 hS hi6 hc nx)
      | 6, _ => exact l_tableIn (off := 361) (tgt := 394) dL_33 (by decide) (by decide) (by decide) (by decide) (case_6 hS hi6 hc nx)
      | 7, _ => exact l_tableIn (off := 404) (tgt := 437) dL_33 (by decide) (by decide) (by decide) (by decide) (case_7 hS hi6 hc nx)
      | 8, _ => exact l_tableIn (off := 437) (tgt := 470) dL_33 (by decide) (by decide) (by decide) (by decide) (case_8 hS hi6 hc nx)
      | 9, _ => exact l_tableIn (off := 490) (tgt := 523) dL_33 (by decide) (by decide) (by decide) (by decide) (case_9 hS hi6 hc nx)
      | 10, _ => exact l_tableIn (off := 559) (tgt := 592) dL_33 (by decide) (by decide) (by decide) (by decide) (case_10 hS hi6 hc nx)
      | 11, _ => exact l_tableIn (off := 619) (tgt := 652) dL_33 (by decide) (by decide) (by decide) (by decide) (case_11 hS hi6 hc nx)
      | 12, _ => exact l_tableIn (off := 699) (tgt := 732) dL_33 (by decide) (by decide) (by decide) (by decide) (case_12 hS hi6 hc nx)
      | 13, _ => exact l_tableIn (off := 742) (tgt := 775) dL_33 (by decide) (by decide) (by decide) (by decide) (case_13 hS hi6 hc nx)
      | 14, _ => exact l_tableIn (off := 775) (tgt := 808) dL_33 (by decide) (by decide) (by decide) (by decide) (case_14 hS hi6 hc nx)
      | 15, _ => exact l_tableIn (off := 828) (tgt := 861) dL_33 (by decide) (by decide) (by decide) (by decide) (case_15 hS hi6 hc nx)
      | 16, _ => exact l_tableIn (off := 877) (tgt := 910) dL_33 (by decide) (by decide) (by decide) (by decide) (case_16 hS hi6 hc nx)
      | 17, _ => exact l_tableIn (off := 920) (tgt := 953) dL_33 (by decide) (by decide) (by decide) (by decide) (case_17 hS hi6 hc nx)
      | 18, _ => exact l_tableIn (off := 963) (tgt := 996) dL_33 (by decide) (by decide) (by decide) (by decide) (case_18 hS hi6 hc nx)
      | 19, _ => exact l_tableIn (off := 1016) (tgt := 1049) dL_33 (by decide) (by decide) (by decide) (by decide) (case_19 hS hi6 hc nx)
      | 20, _ => exact l_tableIn (off := 1049) (tgt := 1082) dL_33 (by decide) (by decide) (by decide) (by decide) (case_20 hS hi6 hc nx)
      | 21, _ => exact l_tableIn (off := 1108) (tgt := 1141) dL_33 (by decide) (by decide) (by decide) (by decide) (case_21 hS hi6 hc nx)
      | 22, _ => exact l_tableIn (off := 1177) (tgt := 1210) dL_33 (by decide) (by decide) (by decide) (by decide) (case_22 hS hi6 hc nx)
      | 23, _ => exact l_tableIn (off := 1237) (tgt := 1270) dL_33 (by decide) (by decide) (by decide) (by decide) (case_23 hS hi6 hc nx)
      | 24, _ => exact l_tableIn (off := 1286) (tgt := 1319) dL_33 (by decide) (by decide) (by decide) (by decide) (case_24 hS hi6 hc nx)
      | 25, _ => exact l_tableIn (off := 1335) (tgt := 1368) dL_33 (by decide) (by decide) (by decide) (by decide) (case_25 hS hi6 hc nx)
      | 26, _ => exact l_tableIn (off := 1395) (tgt := 1428) dL_33 (by decide) (by decide) (by decide) (by decide) (case_26 hS hi6 hc nx)
      | 27, _ => exact l_tableIn (off := 1428) (tgt := 1461) dL_33 (by decide) (by decide) (by decide) (by decide) (case_27 hS hi6 hc nx)
      | 28, _ => exact l_tableIn (off := 1471) (tgt := 1504) dL_33 (by decide) (by decide) (by decide) (by decide) (case_28 hS hi6 hc nx)
      | 29, _ => exact l_tableIn (off := 1524) (tgt := 1557) dL_33 (by decide) (by decide) (by decide) (by decide) (case_29 hS hi6 hc nx)
      | 30, _ => exact l_tableIn (off := 1547) (tgt := 1580) dL_33 (by decide) (by decide) (by decide) (by decide) (case_30 hS hi6 hc hz nx)
      | 31, _ => exact l_tableIn (off := 1570) (tgt := 1603) dL_33 (by decide) (by decide) (by decide) (by decide) (case_31 hS hi6 hc nx)
      | k + 32, hk => exact absurd hk (by omega)
def R0 : mR := rfM (m_row (rfS (m_row (fun _ _ => none) 0 (fun _ => none))) 95 (fun _ => none))
theorem R0_fin : m_fin R0 := fun q hq => (by decide +kernel : ∀ q ∈ m_refs, R0 q.1 q.2.1 = some q.2.2) q hq
theorem R0_39 : ∀ k, k < 3 → R0 39 k = none := by decide +kernel
def I0 : mI := m_up (m_row (m_up (m_row (fun _ _ => 0) 0 (fun _ => 0)) 1 3 (-1)) 95 (fun _ => 0)) 99 0 (-1)
theorem I0_r {a : Nat} (h : a ≠ 1 ∧ a ≠ 99) : I0 a = fun _ => 0 := by
  unfold I0
  rw [m_up_ne h.2]
  by_cases c : a = 95
  · subst c; rw [m_row_eq]
  · rw [m_row_ne c, m_up_ne h.1]
    by_cases d : a = 0
    · subst d; rw [m_row_eq]
    · rw [m_row_ne d]
theorem I0_inv : INV I0 R0 122 := by
  have z : ∀ a, a ≠ 1 ∧ a ≠ 99 → ∀ j, I0 a j = 0 := fun a h j => by rw [I0_r h]
  refine ⟨R0_fin, fun j _ => z 68 (by decide) j, ⟨⟨0, by decide, rfl, z 97 (by decide) 0, fun j hj => absurd hj (Nat.not_lt_zero _)⟩, ⟨by rw [z 98 (by decide)]; rfl, rfl⟩, ⟨0, by decide, z 3 (by decide) 0, z 100 (by decide) _, fun k hk => absurd hk (Nat.not_lt_zero _)⟩, ⟨0, by decide, z 3 (by decide) 1, z 100 (by decide) _, fun k hk => absurd hk (Nat.not_lt_zero _)⟩, ⟨0, by decide, z 3 (by decide) 2, z 100 (by decide) _, fun k hk => absurd hk (Nat.not_lt_zero _)⟩⟩, ⟨0, by decide, rfl, fun i hi => absurd hi (Nat.not_lt_zero _), fun k k' t hk _ e _ => ?_, fun k hk => Or.inl ⟨R0_39 k hk, z 121 (by decide) k⟩⟩⟩
  rw [R0_39 k hk] at e
  exact absurd e (by simp)
theorem law_start {S : Nat × (Nat → Int32)} (hS : S.1 ≤ 3072) : LW S 0 [(0, .ref 1000000)] [] (fun _ _ => 0) (fun _ _ => 0) (fun _ _ => none) 0 := by
  have z0 : ∀ (α : Type) (z : α) (a : Nat), m_row (fun _ _ => z) a (fun _ => z) = fun _ _ => z := fun α z a => by
    funext i
    by_cases c : i = a
    · rw [c, m_row_eq]
    · rw [m_row_ne c]
  refine l_new dL_0 klL_7 ly_0 (by decide) ?_
  refine l_dup dL_3 rfl ?_
  have hz1 : zr (m_row (fun _ _ => (0 : Int32)) 0 (fun _ => 0)) (m_row (fun _ _ => (0 : Int64)) 0 (fun _ => 0)) (m_row (fun _ _ => (none : Option Nat)) 0 (fun _ => none)) 1 := fun i hi => by
    rw [m_row_ne (by omega), m_row_ne (by omega), m_row_ne (by omega)]
    exact ⟨rfl, rfl, rfl⟩
  refine l_callI (d := 3) (as := []) (st := [.ref 0]) dL_4 mlL_9 rfl (Nat.le_of_ble_eq_true rfl) (Nat.le_of_ble_eq_true rfl) rfl (by decide) (by decide) (by decide) (c_S_init (d := 0) hz1) (m_go ?_)
  show LW S 7 [(0, .ref 1000000)] [.ref 0] _ _ _ 95
  refine l_astore_n (lv' := [(1, .ref 0), (0, .ref 1000000)]) dL_7 rfl (by decide) rfl ?_
  refine l_new dL_8 klL_10 ly_95 (by decide) ?_
  refine l_dup dL_11 rfl ?_
  have hz2 := zr_S hz1
  have hz3 : zr (m_row (m_up (m_row (fun _ _ => (0 : Int32)) 0 (fun _ => 0)) 1 3 (-1)) 95 (fun _ => 0)) (m_row (m_row (fun _ _ => (0 : Int64)) 0 (fun _ => 0)) 95 (fun _ => 0)) (m_row (rfS (m_row (fun _ _ => (none : Option Nat)) 0 (fun _ => none))) 95 (fun _ => none)) 96 := fun i hi => by
    obtain ⟨a1, a2, a3⟩ := hz2 i (by omega)
    exact ⟨(m_row_ne (by omega)).trans a1, (m_row_ne (by omega)).trans a2, (m_row_ne (by omega)).trans a3⟩
  refine l_callI (d := 1) (as := []) (st := [.ref 95]) dL_12 mlL_12 rfl (Nat.le_of_ble_eq_true rfl) (Nat.le_of_ble_eq_true rfl) rfl (by decide) (by decide) (by decide) (c_M_init (d := 0) hz3) (m_go ?_)
  show LW S 15 [(1, .ref 0), (0, .ref 1000000)] [.ref 95] I0 _ R0 122
  refine l_astore_n (lv' := [(2, .ref 95), (1, .ref 0), (0, .ref 1000000)]) dL_15 rfl (by decide) rfl ?_
  refine l_iconst (v := nI 0) dL_16 rfl ?_
  refine l_istore_n (lv' := lvL 0) dL_17 rfl (by decide) rfl ?_
  exact law_loop hS 513 0 _ _ _ _ (Nat.zero_le _) (by omega) I0_inv
/-- from the entry, for every script of at most 3072 ints, the law comes to its end with true -/
theorem whole_start {p : Program} {e : Env} {s : State} {m : MethodId} {below : List Frame} {meth : Method} {c : Code} (l : Launch) {b L : Nat} {xs : Nat → Int32} (hL : L ≤ 3072) (hnm : meth.name = x.name) (C0 : lw_At p s m meth c b L xs) : W p l e room_1 s m #[Value.ref b] below meth c s.heap [] 0 0 (lw_Z below #[Value.ref b] s) (entryFrame m ([Value.ref b] : List Value).toArray 4) := l_start l hL hnm C0 (law_start hL)
