abbrev iwP (T : Nat → Int32) (s b e i : Nat) : Prop := s = 1 ∧ e - b = m_lens.getD i 0 ∧ ∀ j, j < m_lens.getD i 0 → T (b + j) = (m_byts.getD i []).getD j 0
abbrev iwV (T : Nat → Int32) (s b e i : Nat) : Int32 := if iwP T s b e i then 1 else 0
theorem l_isw {S : Nat × (Nat → Int32)} {d n : Nat} {I : mI} {J : mJ} {R : mR} (hn : 122 ≤ n) (hR : m_fin R) (hRt : R 40 5 = some 2) {F : Nat → Int32} {s b e : Nat} (h7 : F 7 = nI s) (h8 : F 8 = nI b) (h9 : F 9 = nI e) (hs : s ≤ 4) (hbe : b ≤ e) (he6 : e ≤ 600) {i : Nat} (hi : i < 19) (hle : e - b = (m_lens.getD i 0))  {Q : Option Value → mI → mJ → mR → Prop} (h0 : ∀ k, k < (m_lens.getD i 0) → ¬ ((I 2 (b + k)) = ((m_byts.getD i []).getD k 0)) → Q (some (.int 0)) (m_row I 40 F) J R) (hx : (∀ k, k < (m_lens.getD i 0) → (I 2 (b + k)) = ((m_byts.getD i []).getD k 0)) → AW S (d + 4) YReader_isWord n n Q 63 [(2, .int (nI (m_lens.getD i 0))), (0, .ref 40), (1, .ref (1000010 + i))] [] (m_row I 40 F) J R n) : ∀ m k, k + m = (m_lens.getD i 0) → (∀ j, j < k → (I 2 (b + j)) = ((m_byts.getD i []).getD j 0)) → AW S (d + 4) YReader_isWord n n Q 28 [(2, .int (nI k)), (0, .ref 40), (1, .ref (1000010 + i))] [] (m_row I 40 F) J R n := by
  intro m
  induction m with
  | zero =>
    intro k hk9 hp
    rw [show k = (m_lens.getD i 0) by omega] at hp ⊢
    refine a_iload_n 0 dReader_isWord_28 rfl rfl ?_
    refine a_aload_n 2 dReader_isWord_29 rfl rfl ?_
    refine a_callT (Q' := m_res (some (.int (nI (m_lens.getD i 0)))) (m_row I 40 F) J R) (as := []) (st := [.int (nI (m_lens.getD i 0))]) dReader_isWord_30 ml7_131 rfl hi rfl (Nat.le_of_ble_eq_true rfl) (Nat.le_of_ble_eq_true rfl) rfl (Nat.le_refl _) (Nat.le_refl _) (c_String_length hi) (m_go ?_)
    show AW _ _ _ _ _ _ _ _ [.int (nI (m_lens.getD i 0)), .int (nI (m_lens.getD i 0))] _ _ _ _
    refine a_icmp_geN (tgt := 63) dReader_isWord_33 (by decide) (by omega) (by omega) (fun _ => ?_) (fun c => False.elim (by omega))
    exact hx hp
  | succ m ih =>
    intro k hk9 hp
    have hl7 := st_ln i hi
    refine a_iload_n 0 dReader_isWord_28 rfl rfl ?_
    refine a_aload_n 2 dReader_isWord_29 rfl rfl ?_
    refine a_callT (Q' := m_res (some (.int (nI (m_lens.getD i 0)))) (m_row I 40 F) J R) (as := []) (st := [.int (nI k)]) dReader_isWord_30 ml7_131 rfl hi rfl (Nat.le_of_ble_eq_true rfl) (Nat.le_of_ble_eq_true rfl) rfl (Nat.le_refl _) (Nat.le_refl _) (c_String_length hi) (m_go ?_)
    show AW _ _ _ _ _ _ _ _ [.int (nI (m_lens.getD i 0)), .int (nI k)] _ _ _ _
    refine a_icmp_geN (tgt := 63) dReader_isWord_33 (by decide) (by omega) (by omega) (fun c => False.elim (by omega)) (fun _ => ?_)
    refine a_aload_n 1 dReader_isWord_36 rfl rfl ?_
    refine a_geta (r := 2) dReader_isWord_37 fl7_77 rfl ly_40 (by omega) hRt ?_
    refine a_aload_n 1 dReader_isWord_40 rfl rfl ?_
    refine a_geti dReader_isWord_41 fl7_63 rfl ly_40 (by omega) ?_
    rw [show (m_row I 40 F) 40 8 = (nI b) from h8]
    refine a_iload_n 0 dReader_isWord_44 rfl rfl ?_
    refine a_iaddN (a := b) (b := k) dReader_isWord_45 ?_
    refine a_baldN (a := (b + k)) dReader_isWord_46 ly_2 (by omega) (by omega) (by decide) (fun hb46 => ?_)
    rw [show (m_row I 40 F) 2 (b + k) = I 2 (b + k) from rfl]
    refine a_aload_n 2 dReader_isWord_47 rfl rfl ?_
    refine a_iload_n 0 dReader_isWord_48 rfl rfl ?_
    refine a_callT (Q' := m_res (some (.int ((m_byts.getD i []).getD k 0))) (m_row I 40 F) J R) (as := [.int (nI k)]) (st := [.int (I 2 (b + k))]) dReader_isWord_49 ml7_136 rfl hi rfl (Nat.le_of_ble_eq_true rfl) (Nat.le_of_ble_eq_true rfl) rfl (Nat.le_refl _) (Nat.le_refl _) (c_String_charAt hi (j := k) (by omega)) (m_go ?_)
    show AW _ _ _ _ _ _ _ _ [.int ((m_byts.getD i []).getD k 0), .int (I 2 (b + k))] _ _ _ _
    refine a_icmp_eq (tgt := 57) dReader_isWord_52 (by decide) (fun c52 => ?_) (fun c52 => ?_)
    · refine a_iincN (lv' := [(2, .int (nI (k + 1))), (0, .ref 40), (1, .ref (1000010 + i))]) (j := 0) dReader_isWord_57 rfl (by decide) rfl ?_
      refine a_goto (tgt := 28) dReader_isWord_60 (by decide) ?_
      exact ih (k + 1) (by omega) (fun j hj => by
        rcases Nat.lt_or_eq_of_le (Nat.le_of_lt_succ hj) with h1 | h1
        · exact hp j h1
        · subst h1; exact c52)
    · refine a_iconstN (a := 0) dReader_isWord_55 (by decide) ?_
      exact a_zret dReader_isWord_56 rfl (by rfl) (h0 k (by omega) (fun q => absurd q c52))
theorem c_isWord {S : Nat × (Nat → Int32)} {d n : Nat} {I : mI} {J : mJ} {R : mR} (hn : 122 ≤ n) (hR : m_fin R) (hRt : R 40 5 = some 2) {F : Nat → Int32} {s b e : Nat} (h7 : F 7 = nI s) (h8 : F 8 = nI b) (h9 : F 9 = nI e) (hs : s ≤ 4) (hbe : b ≤ e) (he6 : e ≤ 600) {i : Nat} (hi : i < 19)  : RUN S (d + 4) YReader_isWord [.ref 40, .ref (1000010 + i)] (m_row I 40 F) J R n (some (.int (iwV (I 2) s b e i))) (m_row I 40 F) J R n := by
  show AW S _ YReader_isWord n n _ 0 [(0, .ref 40), (1, .ref (1000010 + i))] [] (m_row I 40 F) J R n
  have hl7 := st_ln i hi
  refine a_aload_n 0 dReader_isWord_0 rfl rfl ?_
  refine a_geti dReader_isWord_1 fl7_53 rfl ly_40 (by omega) ?_
  rw [show (m_row I 40 F) 40 7 = (nI s) from h7]
  refine a_iconstN (a := 1) dReader_isWord_4 (by decide) ?_
  refine a_icmp_neN (tgt := 24) dReader_isWord_5 (by decide) (by omega) (by omega) (fun c5 => ?_) (fun c5 => ?_)
  · refine a_iconstN (a := 0) dReader_isWord_24 (by decide) ?_
    exact a_zret dReader_isWord_25 rfl (by rfl) ⟨by unfold iwV; rw [if_neg (show ¬ iwP (I 2) s b e i from fun q => by have q1 := q.1; have q2 := q.2.1; omega)]; rfl, rfl, rfl, rfl⟩
  · refine a_aload_n 0 dReader_isWord_8 rfl rfl ?_
    refine a_geti dReader_isWord_9 fl7_90 rfl ly_40 (by omega) ?_
    rw [show (m_row I 40 F) 40 9 = (nI e) from h9]
    refine a_aload_n 0 dReader_isWord_12 rfl rfl ?_
    refine a_geti dReader_isWord_13 fl7_63 rfl ly_40 (by omega) ?_
    rw [show (m_row I 40 F) 40 8 = (nI b) from h8]
    refine a_isubN dReader_isWord_16 hbe ?_
    refine a_aload_n 1 dReader_isWord_17 rfl rfl ?_
    refine a_callT (Q' := m_res (some (.int (nI (m_lens.getD i 0)))) (m_row I 40 F) J R) (as := []) (st := [.int (nI (e - b))]) dReader_isWord_18 ml7_131 rfl hi rfl (Nat.le_of_ble_eq_true rfl) (Nat.le_of_ble_eq_true rfl) rfl (Nat.le_refl _) (Nat.le_refl _) (c_String_length hi) (m_go ?_)
    show AW _ _ _ _ _ _ _ _ [.int (nI (m_lens.getD i 0)), .int (nI (e - b))] _ _ _ _
    refine a_icmp_eqN (tgt := 26) dReader_isWord_21 (by decide) (by omega) (by omega) (fun c21 => ?_) (fun c21 => ?_)
    · refine a_iconstN (a := 0) dReader_isWord_26 (by decide) ?_
      refine a_istore_n (lv' := [(2, .int (nI 0)), (0, .ref 40), (1, .ref (1000010 + i))]) dReader_isWord_27 rfl (by decide) rfl ?_
      refine a_locs (lv' := [(2, .int (nI 0)), (0, .ref 40), (1, .ref (1000010 + i))]) [0, 1, 2] rfl ?_
      refine l_isw hn hR hRt h7 h8 h9 hs hbe he6 hi (by omega) (fun k hk2 hp => ?_) (fun hp => ?_) (m_lens.getD i 0) 0 (by omega) (fun j hj => absurd hj (Nat.not_lt_zero _))
      · exact ⟨by unfold iwV; rw [if_neg (fun q => hp (q.2.2 k hk2))], rfl, rfl, rfl⟩
      · refine a_iconstN (a := 1) dReader_isWord_63 (by decide) ?_
        exact a_zret dReader_isWord_64 rfl (by rfl) ⟨by unfold iwV; rw [if_pos ⟨by omega, by omega, hp⟩]; rfl, rfl, rfl, rfl⟩
    · refine a_iconstN (a := 0) dReader_isWord_24 (by decide) ?_
      exact a_zret dReader_isWord_25 rfl (by rfl) ⟨by unfold iwV; rw [if_neg (show ¬ iwP (I 2) s b e i from fun q => by have q1 := q.1; have q2 := q.2.1; omega)]; rfl, rfl, rfl, rfl⟩
