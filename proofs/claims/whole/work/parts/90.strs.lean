theorem fS38 : Cond.fieldLink "java/lang/String" 38 "java/lang/String" "COMPACT_STRINGS" "Z" ∈ m_gd := m_in (i := 566) (by decide +kernel) rfl
theorem fS9 : Cond.fieldLink "java/lang/String" 9 "java/lang/String" "value" "[B" ∈ m_gd := m_in (i := 1854) (by decide +kernel) rfl
theorem fS15 : Cond.fieldLink "java/lang/String" 15 "java/lang/String" "coder" "B" ∈ m_gd := m_in (i := 1855) (by decide +kernel) rfl
theorem fS1053 : Cond.fieldLink "java/lang/String" 1053 "jdk/internal/util/Preconditions" "SIOOBE_FORMATTER" "Ljava/util/function/BiFunction;" ∈ m_gd := m_in (i := 582) (by decide +kernel) rfl
theorem c_String_coder {S : Nat × (Nat → Int32)} {d n : Nat} {I : mI} {J : mJ} {R : mR} {i : Nat} (hi : i < 19) : RUN S d YString_coder [.ref (1000010 + i)] I J R n (some (.int 0)) I J R n := by
  show AW S _ YString_coder n n _ 0 [(0, .ref (1000010 + i))] [] I J R n
  refine a_getsC dString_coder_0 fS38 ?_
  refine a_if_eq (tgt := 13) dString_coder_3 (by decide) (fun c => False.elim (absurd c (by decide))) (fun _ => ?_)
  refine a_aload_n 0 dString_coder_6 rfl rfl ?_
  refine a_strC dString_coder_7 hi fS15 ?_
  refine a_goto (tgt := 14) dString_coder_10 (by decide) ?_
  exact a_zret dString_coder_14 rfl rfl ⟨rfl, rfl, rfl, rfl⟩
theorem c_String_isLatin1 {S : Nat × (Nat → Int32)} {d n : Nat} {I : mI} {J : mJ} {R : mR} {i : Nat} (hi : i < 19) : RUN S d YString_isLatin1 [.ref (1000010 + i)] I J R n (some (.int 1)) I J R n := by
  show AW S _ YString_isLatin1 n n _ 0 [(0, .ref (1000010 + i))] [] I J R n
  refine a_getsC dString_isLatin1_0 fS38 ?_
  refine a_if_eq (tgt := 17) dString_isLatin1_3 (by decide) (fun c => False.elim (absurd c (by decide))) (fun _ => ?_)
  refine a_aload_n 0 dString_isLatin1_6 rfl rfl ?_
  refine a_strC dString_isLatin1_7 hi fS15 ?_
  refine a_if_ne (tgt := 17) dString_isLatin1_10 (by decide) (fun c => False.elim (c rfl)) (fun _ => ?_)
  refine a_iconst (v := 1) dString_isLatin1_13 (by decide) ?_
  refine a_goto (tgt := 18) dString_isLatin1_14 (by decide) ?_
  exact a_zret dString_isLatin1_18 rfl rfl ⟨rfl, rfl, rfl, rfl⟩
theorem c_String_length {S : Nat × (Nat → Int32)} {d n : Nat} {I : mI} {J : mJ} {R : mR} {i : Nat} (hi : i < 19) : RUN S (d + 1) YString_length [.ref (1000010 + i)] I J R n (some (.int (nI (m_lens.getD i 0)))) I J R n := by
  show AW S _ YString_length n n _ 0 [(0, .ref (1000010 + i))] [] I J R n
  refine a_aload_n 0 dString_length_0 rfl rfl ?_
  refine a_strV dString_length_1 hi fS9 ?_
  refine a_strL (v := nI (m_lens.getD i 0)) dString_length_4 hi rfl ?_
  refine a_aload_n 0 dString_length_5 rfl rfl ?_
  refine a_callT (Q' := m_res (some (.int 0)) I J R) (as := []) (st := [.int (nI (m_lens.getD i 0))]) dString_length_6 mlString_335 rfl hi rfl (Nat.le_of_ble_eq_true rfl) (Nat.le_of_ble_eq_true rfl) rfl (Nat.le_refl _) (Nat.le_refl _) (c_String_coder hi) ?_
  intro v9 I9 J9 R9 ⟨e1, e2, e3, e4⟩
  subst e1 e2 e3 e4
  show AW _ _ _ _ _ _ _ _ [.int 0, .int (nI (m_lens.getD i 0))] _ _ _ _
  refine a_ishr dString_length_9 ?_
  exact a_iret dString_length_10 rfl ⟨by rw [show ∀ x : Int32, x >>> ((0 : Int32) &&& 31) = x from fun x => by
    refine b_ext (fun i hi => ?_)
    have h := b_sshr 0 (by decide) x hi
    rw [show (nI 0 : Int32) = 0 from rfl] at h
    rw [h]
    simp [hi]], rfl, rfl, rfl⟩
