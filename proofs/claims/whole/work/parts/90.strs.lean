theorem fS38 : Cond.fieldLink "java/lang/String" 38 "java/lang/String" "COMPACT_STRINGS" "Z" ∈ m_gd := m_in (i := 566) (by decide +kernel) rfl
theorem fS9 : Cond.fieldLink "java/lang/String" 9 "java/lang/String" "value" "[B" ∈ m_gd := m_in (i := 1854) (by decide +kernel) rfl
theorem fS15 : Cond.fieldLink "java/lang/String" 15 "java/lang/String" "coder" "B" ∈ m_gd := m_in (i := 1855) (by decide +kernel) rfl
theorem fS1053 : Cond.fieldLink "java/lang/String" 1053 "jdk/internal/util/Preconditions" "SIOOBE_FORMATTER" "Ljava/util/function/BiFunction;" ∈ m_gd := m_in (i := 582) (by decide +kernel) rfl
theorem c_String_coder {S : Nat × (Nat → Int32)} {d n : Nat} {I : mI} {J : mJ} {R : mR} {i : Nat} (hi : i < 19) : RUN S d YString_coder [.ref (1000010 + i)] I J R n (some (.int 0)) I J R n := by
  show AW S _ YString_coder n n _ 0 [(0, .ref (1000010 + i))] [] I J R n
  refine a_getsC dString_coder_0 fS38 ?_
  refine a_if_eq (tgt := 13) dString_coder_3 (by decide) (fun c => False.elim (absurd c (by decide))) (fun _ => ?_)
  refine a_aload_n 0 dString_coder_6 rfl rfl ?_
  refine a_strC dString_coder_7 hi fS15 ?_
  refine a_goto (tgt := 14) dString_coder_10 (by decide) ?_
  exact a_zret dString_coder_14 rfl rfl ⟨rfl, rfl, rfl, rfl⟩
theorem c_String_isLatin1 {S : Nat × (Nat → Int32)} {d n : Nat} {I : mI} {J : mJ} {R : mR} {i : Nat} (hi : i < 19) : RUN S d YString_isLatin1 [.ref (1000010 + i)] I J R n (some (.int 1)) I J R n := by
  show AW S _ YString_isLatin1 n n _ 0 [(0, .ref (1000010 + i))] [] I J R n
  refine a_getsC dString_isLatin1_0 fS38 ?_
  refine a_if_eq (tgt := 17) dString_isLatin1_3 (by decide) (fun c => False.elim (absurd c (by decide))) (fun _ => ?_)
  refine a_aload_n 0 dString_isLatin1_6 rfl rfl ?_
  refine a_strC dString_isLatin1_7 hi fS15 ?_
  refine a_if_ne (tgt := 17) dString_isLatin1_10 (by decide) (fun c => False.elim (c rfl)) (fun _ => ?_)
  refine a_iconst (v := 1) dString_isLatin1_13 (by decide) ?_
  refine a_goto (tgt := 18) dString_isLatin1_14 (by decide) ?_
  exact a_zret dString_isLatin1_18 rfl rfl ⟨rfl, rfl, rfl, rfl⟩
theorem c_String_length {S : Nat × (Nat → Int32)} {d n : Nat} {I : mI} {J : mJ} {R : mR} {i : Nat} (hi : i < 19) : RUN S (d + 1) YString_length [.ref (1000010 + i)] I J R n (some (.int (nI (m_lens.getD i 0)))) I J R n := by
  show AW S _ YString_length n n _ 0 [(0, .ref (1000010 + i))] [] I J R n
  refine a_aload_n 0 dString_length_0 rfl rfl ?_
  refine a_strV dString_length_1 hi fS9 ?_
  refine a_strL (v := nI (m_lens.getD i 0)) dString_length_4 hi rfl ?_
  refine a_aload_n 0 dString_length_5 rfl rfl ?_
  refine a_callT (Q' := m_res (some (.int 0)) I J R) (as := []) (st := [.int (nI (m_lens.getD i 0))]) dString_length_6 mlString_335 rfl hi rfl (Nat.le_of_ble_eq_true rfl) (Nat.le_of_ble_eq_true rfl) rfl (Nat.le_refl _) (Nat.le_refl _) (c_String_coder hi) ?_
  intro v9 I9 J9 R9 ⟨e1, e2, e3, e4⟩
  subst e1 e2 e3 e4
  show AW _ _ _ _ _ _ _ _ [.int 0, .int (nI (m_lens.getD i 0))] _ _ _ _
  refine a_ishr dString_length_9 ?_
  exact a_iret dString_length_10 rfl ⟨by rw [show ∀ x : Int32, x >>> ((0 : Int32) &&& 31) = x from fun x => by
    refine b_ext (fun i hi => ?_)
    have h := b_sshr 0 (by decide) x hi
    rw [show (nI 0 : Int32) = 0 from rfl] at h
    rw [h]
    simp [hi]], rfl, rfl, rfl⟩
theorem c_PreN {S : Nat × (Nat → Int32)} {d n : Nat} {I : mI} {J : mJ} {R : mR} {j N : Nat} (hj : j < N) (hN : N < 2 ^ 31) : RUN S d YPreconditions_checkIndex [.int (nI j), .int (nI N), .null] I J R n (some (.int (nI j))) I J R n := by
  show AW S _ YPreconditions_checkIndex n n _ 0 [(0, .int (nI j)), (1, .int (nI N)), (2, .null)] [] I J R n
  refine a_iload_n 0 dPreconditions_checkIndex_0 rfl rfl ?_
  refine a_if_lt (tgt := 9) dPreconditions_checkIndex_1 (by decide) (fun c => False.elim (nI_pos (by omega) c)) (fun _ => ?_)
  refine a_iload_n 0 dPreconditions_checkIndex_4 rfl rfl ?_
  refine a_iload_n 1 dPreconditions_checkIndex_5 rfl rfl ?_
  refine a_icmp_ltN (tgt := 16) dPreconditions_checkIndex_6 (by decide) (by omega) (by omega) (fun _ => ?_) (fun c => False.elim (by omega))
  refine a_iload_n 0 dPreconditions_checkIndex_16 rfl rfl ?_
  exact a_iret dPreconditions_checkIndex_17 rfl ⟨rfl, rfl, rfl, rfl⟩
theorem c_PreR {S : Nat × (Nat → Int32)} {d n : Nat} {I : mI} {J : mJ} {R : mR} {j N : Nat} (hj : j < N) (hN : N < 2 ^ 31) : RUN S d YPreconditions_checkIndex [.int (nI j), .int (nI N), (.ref 1000003)] I J R n (some (.int (nI j))) I J R n := by
  show AW S _ YPreconditions_checkIndex n n _ 0 [(0, .int (nI j)), (1, .int (nI N)), (2, (.ref 1000003))] [] I J R n
  refine a_iload_n 0 dPreconditions_checkIndex_0 rfl rfl ?_
  refine a_if_lt (tgt := 9) dPreconditions_checkIndex_1 (by decide) (fun c => False.elim (nI_pos (by omega) c)) (fun _ => ?_)
  refine a_iload_n 0 dPreconditions_checkIndex_4 rfl rfl ?_
  refine a_iload_n 1 dPreconditions_checkIndex_5 rfl rfl ?_
  refine a_icmp_ltN (tgt := 16) dPreconditions_checkIndex_6 (by decide) (by omega) (by omega) (fun _ => ?_) (fun c => False.elim (by omega))
  refine a_iload_n 0 dPreconditions_checkIndex_16 rfl rfl ?_
  exact a_iret dPreconditions_checkIndex_17 rfl ⟨rfl, rfl, rfl, rfl⟩
theorem c_String_checkIndex {S : Nat × (Nat → Int32)} {d n : Nat} {I : mI} {J : mJ} {R : mR} {j N : Nat} (hj : j < N) (hN : N < 2 ^ 31) : RUN S (d + 1) YString_checkIndex [.int (nI j), .int (nI N)] I J R n none I J R n := by
  show AW S _ YString_checkIndex n n _ 0 [(0, .int (nI j)), (1, .int (nI N))] [] I J R n
  refine a_iload_n 0 dString_checkIndex_0 rfl rfl ?_
  refine a_iload_n 1 dString_checkIndex_1 rfl rfl ?_
  refine a_getsF dString_checkIndex_2 fS1053 ?_ ?_
  · refine a_callS (Q' := m_res (some (.int (nI j))) I J R) (as := [.int (nI j), .int (nI N), .null]) (st := []) dString_checkIndex_5 mlString_1059 rfl (Nat.le_of_ble_eq_true rfl) (Nat.le_of_ble_eq_true rfl) rfl (Nat.le_refl _) (Nat.le_refl _) (c_PreN hj hN) (m_go ?_)
    show AW _ _ _ _ _ _ _ _ [.int (nI j)] _ _ _ _
    refine a_pop dString_checkIndex_8 rfl ?_
    exact a_vret dString_checkIndex_9 rfl ⟨rfl, rfl, rfl, rfl⟩
  · refine a_callS (Q' := m_res (some (.int (nI j))) I J R) (as := [.int (nI j), .int (nI N), .ref 1000003]) (st := []) dString_checkIndex_5 mlString_1059 rfl (Nat.le_of_ble_eq_true rfl) (Nat.le_of_ble_eq_true rfl) rfl (Nat.le_refl _) (Nat.le_refl _) (c_PreR hj hN) (m_go ?_)
    show AW _ _ _ _ _ _ _ _ [.int (nI j)] _ _ _ _
    refine a_pop dString_checkIndex_8 rfl ?_
    exact a_vret dString_checkIndex_9 rfl ⟨rfl, rfl, rfl, rfl⟩
theorem st_ok : ∀ i, i < 19 → ∀ j, j < m_lens.getD i 0 → (((m_byts.getD i []).getD j 0) &&& nI 255) = (m_byts.getD i []).getD j 0 ∧ ((m_byts.getD i []).getD j 0).toUInt32.toUInt16.toUInt32.toInt32 = (m_byts.getD i []).getD j 0 := by decide +kernel
theorem st_ln : ∀ i, i < 19 → m_lens.getD i 0 ≤ 7 := by decide +kernel
theorem c_Latin1_charAt {S : Nat × (Nat → Int32)} {d n : Nat} {I : mI} {J : mJ} {R : mR} {i : Nat} (hi : i < 19)  {j : Nat} (hj : j < m_lens.getD i 0) : RUN S (d + 2) YStringLatin1_charAt [.ref (1000050 + i), .int (nI j)] I J R n (some (.int ((m_byts.getD i []).getD j 0))) I J R n := by
  have hl := st_ln i hi
  have hk := st_ok i hi j hj
  show AW S _ YStringLatin1_charAt n n _ 0 [(0, .ref (1000050 + i)), (1, .int (nI j))] [] I J R n
  refine a_iload_n 1 dStringLatin1_charAt_0 rfl rfl ?_
  refine a_aload_n 0 dStringLatin1_charAt_1 rfl rfl ?_
  refine a_strL (v := nI (m_lens.getD i 0)) dStringLatin1_charAt_2 hi rfl ?_
  refine a_callS (Q' := m_res none I J R) (as := [.int (nI j), .int (nI (m_lens.getD i 0))]) (st := []) dStringLatin1_charAt_3 mlStringLatin1_9 rfl (Nat.le_of_ble_eq_true rfl) (Nat.le_of_ble_eq_true rfl) rfl (Nat.le_refl _) (Nat.le_refl _) (c_String_checkIndex hj (by omega)) (m_go ?_)
  show AW _ _ _ _ _ _ _ _ [] _ _ _ _
  refine a_aload_n 0 dStringLatin1_charAt_6 rfl rfl ?_
  refine a_iload_n 1 dStringLatin1_charAt_7 rfl rfl ?_
  refine a_strB dStringLatin1_charAt_8 hi (nI_in hj (by omega)) ?_
  rw [nI_clamp (show j < 2 ^ 31 by omega)]
  refine a_sipushN (a := 255) dStringLatin1_charAt_9 (by decide) ?_
  refine a_iand dStringLatin1_charAt_12 ?_
  rw [hk.1]
  refine a_i2c dStringLatin1_charAt_13 hk.2 ?_
  exact a_zret dStringLatin1_charAt_14 rfl (congrArg Value.int hk.2) ⟨rfl, rfl, rfl, rfl⟩
theorem c_String_charAt {S : Nat × (Nat → Int32)} {d n : Nat} {I : mI} {J : mJ} {R : mR} {i : Nat} (hi : i < 19)  {j : Nat} (hj : j < m_lens.getD i 0) : RUN S (d + 3) YString_charAt [.ref (1000010 + i), .int (nI j)] I J R n (some (.int ((m_byts.getD i []).getD j 0))) I J R n := by
  have hk := st_ok i hi j hj
  show AW S _ YString_charAt n n _ 0 [(0, .ref (1000010 + i)), (1, .int (nI j))] [] I J R n
  refine a_aload_n 0 dString_charAt_0 rfl rfl ?_
  refine a_callT (Q' := m_res (some (.int 1)) I J R) (as := []) (st := []) dString_charAt_1 mlString_492 rfl hi rfl (Nat.le_of_ble_eq_true rfl) (Nat.le_of_ble_eq_true rfl) rfl (Nat.le_refl _) (Nat.le_refl _) (c_String_isLatin1 hi) (m_go ?_)
  show AW _ _ _ _ _ _ _ _ [.int 1] _ _ _ _
  refine a_if_eq (tgt := 16) dString_charAt_4 (by decide) (fun c => False.elim (absurd c (by decide))) (fun _ => ?_)
  refine a_aload_n 0 dString_charAt_7 rfl rfl ?_
  refine a_strV dString_charAt_8 hi fS9 ?_
  refine a_iload_n 1 dString_charAt_11 rfl rfl ?_
  refine a_callS (Q' := m_res (some (.int ((m_byts.getD i []).getD j 0))) I J R) (as := [.ref (1000050 + i), .int (nI j)]) (st := []) dString_charAt_12 mlString_495 rfl (Nat.le_of_ble_eq_true rfl) (Nat.le_of_ble_eq_true rfl) rfl (Nat.le_refl _) (Nat.le_refl _) (c_Latin1_charAt hi hj) (m_go ?_)
  show AW _ _ _ _ _ _ _ _ [.int ((m_byts.getD i []).getD j 0)] _ _ _ _
  exact a_zret dString_charAt_15 rfl (congrArg Value.int hk.2) ⟨rfl, rfl, rfl, rfl⟩
