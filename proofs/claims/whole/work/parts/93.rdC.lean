abbrev rs5 : Type := Nat × Nat × (Nat → Int32) × (Nat → Int32) × (Nat → Int32)
/-- what comes behind a line's first word, as its shape says -/
def shF (T : Nat → Int32) (len i : Nat) : Nat → Nat → Nat → rs5 → Bool × Nat × rs5
  | 0, _, p, x => (true, p, x)
  | r + 1, j, p, x => if (m_byts.getD i []).getD j 0 = nI 107 then (if khC T (tkS T len p) (tkB T len p) (tkE T len p) = -1 then (false, p, x) else shF T len i r (j + 1) (tkE T len p) (x.1 + 1, x.2.1, va_up x.2.2.1 x.1 (khC T (tkS T len p) (tkB T len p) (tkE T len p)), x.2.2.2.1, x.2.2.2.2)) else (if tkS T len p = 2 then shF T len i r (j + 1) (tkE T len p) (x.1, x.2.1 + 1, x.2.2.1, va_up x.2.2.2.1 x.2.1 (nvC T (tkE T len p - tkB T len p) (tkB T len p) (nI 0)), va_up x.2.2.2.2 x.2.1 (nI (tkB T len p))) else (false, p, x))
/-- the reader's fields -/
abbrev fK (F : Nat → Int32) (s b e kt nt : Nat) : Nat → Int32 := va_up (va_up (va_up (va_up (va_up F 7 (nI s)) 8 (nI b)) 9 (nI e)) 12 (nI kt)) 15 (nI nt)
theorem fK_tk {T : Nat → Int32} {len p : Nat} {F : Nat → Int32} {s b kt nt : Nat} : tkF T len p (fK F s b p kt nt) = fK F (tkS T len p) (tkB T len p) (tkE T len p) kt nt := by
  funext a
  unfold tkF fK va_up
  by_cases h9 : a = 9
  · simp [h9]
  · by_cases h8 : a = 8
    · simp [h8]
    · by_cases h7 : a = 7
      · simp [h7]
      · simp [h9, h8, h7]
theorem tkS_le {T : Nat → Int32} {len p : Nat} : tkS T len p ≤ 4 := by
  unfold tkS
  split
  · omega
  · split
    · omega
    · split
      · split <;> omega
      · split <;> omega
theorem fK_k {F : Nat → Int32} {s b e kt nt k2 : Nat} : va_up (fK F s b e kt nt) 12 (nI k2) = fK F s b e k2 nt := by
  funext a
  unfold fK va_up
  by_cases h : a = 15
  · simp [h]
  · by_cases h2 : a = 12
    · simp [h2]
    · simp [h, h2]
theorem fK_n {F : Nat → Int32} {s b e kt nt k2 : Nat} : va_up (fK F s b e kt nt) 15 (nI k2) = fK F s b e kt k2 := va_uu
theorem l_rdS {S : Nat × (Nat → Int32)} {d n : Nat} {I : mI} {J : mJ} {R : mR} (hn : 122 ≤ n) (hR : m_fin R) (hRt : R 40 5 = some 2) {F : Nat → Int32} {len : Nat} (hlen : F 6 = nI len) (hl6 : len ≤ 600) {i : Nat} (hi : i < 19) (hi3 : m_lens.getD i 0 ≤ 3) {x l : Int32} {Q : Option Value → mI → mJ → mR → Prop} {o9 : Bool} {p9 : Nat} {y9 : rs5} (hF : o9 = false → Q (some (.int 0)) (rM I (fK F (tkS (I 2) len p9) (tkB (I 2) len p9) (tkE (I 2) len p9) y9.1 y9.2.1) y9.2.2.1 y9.2.2.2.1 y9.2.2.2.2) J R) (hx : o9 = true → ∀ s1 b1, AW S (d + 7) YReader_readLine n n Q 88 [(4, .int (nI (m_lens.getD i 0))), (0, .ref 40), (1, .int x), (2, .int l), (3, .ref (1000010 + i))] [] (rM I (fK F s1 b1 p9 y9.1 y9.2.1) y9.2.2.1 y9.2.2.2.1 y9.2.2.2.2) J R n) : ∀ r j p (y : rs5) s0 b0, j + r = m_lens.getD i 0 → p ≤ len → y.1 ≤ j → y.2.1 ≤ j → shF (I 2) len i r j p y = (o9, p9, y9) → AW S (d + 7) YReader_readLine n n Q 39 [(4, .int (nI j)), (0, .ref 40), (1, .int x), (2, .int l), (3, .ref (1000010 + i))] [] (rM I (fK F s0 b0 p y.1 y.2.1) y.2.2.1 y.2.2.2.1 y.2.2.2.2) J R n := by
  intro r
  induction r with
  | zero =>
    intro j p y s0 b0 hj9 hp hy1 hy2 he
    obtain rfl : j = m_lens.getD i 0 := by omega
    have he1 : true = o9 := congrArg (fun q => q.1) he
    have he2 : p = p9 := congrArg (fun q => q.2.1) he
    have he3 : y = y9 := congrArg (fun q => q.2.2) he
    subst he2
    subst he3
    refine a_iload 0 dReader_readLine_39 rfl ?_
    refine a_aload_n 4 dReader_readLine_41 rfl rfl ?_
    refine a_callT (Q' := m_res (some (.int (nI (m_lens.getD i 0)))) (rM I (fK F s0 b0 p y.1 y.2.1) y.2.2.1 y.2.2.2.1 y.2.2.2.2) J R) (as := []) (st := [.int (nI (m_lens.getD i 0))]) dReader_readLine_42 ml7_131 rfl hi rfl (Nat.le_of_ble_eq_true rfl) (Nat.le_of_ble_eq_true rfl) rfl (Nat.le_refl _) (Nat.le_refl _) (c_String_length hi) (m_go ?_)
    show AW _ _ _ _ _ _ _ _ [.int (nI (m_lens.getD i 0)), .int (nI (m_lens.getD i 0))] _ _ _ _
    refine a_icmp_geN (tgt := 88) dReader_readLine_45 (by decide) (by omega) (by omega) (fun _ => ?_) (fun c => False.elim (by omega))
    exact hx he1.symm s0 b0
  | succ r ih =>
    intro j p y s0 b0 hj9 hp hy1 hy2 he
    have hb9 := tkB_le (T := I 2) hp
    have he9 := tkE_le (T := I 2) hp
    have hs9 := tkS_le (T := I 2) (len := len) (p := p)
    unfold shF at he
    by_cases hc : (m_byts.getD i []).getD j 0 = nI 107
    · rw [if_pos hc] at he
      rcases khC_01 (T := I 2) (s := (tkS (I 2) len p)) (b := (tkB (I 2) len p)) (e := (tkE (I 2) len p)) with hk | ⟨k, hk4, hk⟩
      · rw [if_pos hk] at he
        refine a_iload 0 dReader_readLine_39 rfl ?_
        refine a_aload_n 4 dReader_readLine_41 rfl rfl ?_
        refine a_callT (Q' := m_res (some (.int (nI (m_lens.getD i 0)))) (rM I (fK F s0 b0 p y.1 y.2.1) y.2.2.1 y.2.2.2.1 y.2.2.2.2) J R) (as := []) (st := [.int (nI j)]) dReader_readLine_42 ml7_131 rfl hi rfl (Nat.le_of_ble_eq_true rfl) (Nat.le_of_ble_eq_true rfl) rfl (Nat.le_refl _) (Nat.le_refl _) (c_String_length hi) (m_go ?_)
        show AW _ _ _ _ _ _ _ _ [.int (nI (m_lens.getD i 0)), .int (nI j)] _ _ _ _
        refine a_icmp_geN (tgt := 88) dReader_readLine_45 (by decide) (by omega) (by omega) (fun c => False.elim (by omega)) (fun _ => ?_)
        refine a_aload_n 1 dReader_readLine_48 rfl rfl ?_
        refine a_callV (Q' := m_res none (rM I (fK F (tkS (I 2) len p) (tkB (I 2) len p) (tkE (I 2) len p) y.1 y.2.1) y.2.2.1 y.2.2.2.1 y.2.2.2.2) J R) (as := []) (st := []) dReader_readLine_49 ml7_50 rfl (Nat.le_of_ble_eq_true rfl) ly_40 rfl rfl (by decide) (by omega) (Nat.le_of_ble_eq_true rfl) rfl (Nat.le_refl _) (Nat.le_refl _) (by have h := c_nextToken (S := S) (d := d + 4) (n := n) (J := J) (R := R) (I := m_row (m_row (m_row I 57 y.2.2.1) 58 y.2.2.2.1) 59 y.2.2.2.2) (F := fK F s0 b0 p y.1 y.2.1) (len := len) (p := p) hn hR hRt hlen hl6 hp rfl; rw [rM_c] at h; rw [show (m_row (m_row (m_row I 57 y.2.2.1) 58 y.2.2.2.1) 59 y.2.2.2.2) 2 = I 2 from rfl, fK_tk] at h; rw [rM_c] at h; exact h) (m_go ?_)
        show AW _ _ _ _ _ _ _ _ [] _ _ _ _
        refine a_aload_n 4 dReader_readLine_52 rfl rfl ?_
        refine a_iload 0 dReader_readLine_53 rfl ?_
        refine a_callT (Q' := m_res (some (.int ((m_byts.getD i []).getD j 0))) (rM I (fK F (tkS (I 2) len p) (tkB (I 2) len p) (tkE (I 2) len p) y.1 y.2.1) y.2.2.1 y.2.2.2.1 y.2.2.2.2) J R) (as := [.int (nI j)]) (st := []) dReader_readLine_55 ml7_136 rfl hi rfl (Nat.le_of_ble_eq_true rfl) (Nat.le_of_ble_eq_true rfl) rfl (Nat.le_refl _) (Nat.le_refl _) (c_String_charAt hi (j := j) (by omega)) (m_go ?_)
        show AW _ _ _ _ _ _ _ _ [.int ((m_byts.getD i []).getD j 0)] _ _ _ _
        refine a_bipushN (a := 107) dReader_readLine_58 (by decide) ?_
        refine a_icmp_ne (tgt := 73) dReader_readLine_60 (by decide) (fun c => False.elim (c hc)) (fun _ => ?_)
        refine a_aload_n 1 dReader_readLine_63 rfl rfl ?_
        refine a_callV (Q' := m_res (some (.int 0)) (rM I (fK F (tkS (I 2) len p) (tkB (I 2) len p) (tkE (I 2) len p) y.1 y.2.1) y.2.2.1 y.2.2.2.1 y.2.2.2.2) J R) (as := []) (st := []) dReader_readLine_64 ml7_140 rfl (Nat.le_of_ble_eq_true rfl) ly_40 rfl rfl (by decide) (by omega) (Nat.le_of_ble_eq_true rfl) rfl (Nat.le_refl _) (Nat.le_refl _) (c_takeKind0 (I := I) (F := fK F (tkS (I 2) len p) (tkB (I 2) len p) (tkE (I 2) len p) y.1 y.2.1) (s := (tkS (I 2) len p)) (b := (tkB (I 2) len p)) (e := (tkE (I 2) len p)) hn hR hRt rfl rfl rfl hs9 he9.1 (by omega) hk) (m_go ?_)
        show AW _ _ _ _ _ _ _ _ [.int 0] _ _ _ _
        refine a_if_eq (tgt := 80) dReader_readLine_67 (by decide) (fun _ => ?_) (fun c => False.elim (c rfl))
        refine a_iconstN (a := 0) dReader_readLine_80 (by decide) ?_
        exact a_zret dReader_readLine_81 rfl (by rfl) (by obtain ⟨e1, e2, e3⟩ : (false = o9) ∧ (p = p9) ∧ (y = y9) := ⟨congrArg (fun q => q.1) he, congrArg (fun q => q.2.1) he, congrArg (fun q => q.2.2) he⟩; subst e2; subst e3; exact hF e1.symm)
      · rw [if_neg (show ¬ khC (I 2) (tkS (I 2) len p) (tkB (I 2) len p) (tkE (I 2) len p) = -1 by rw [hk]; exact fun q => nI_m1 (by omega) q), hk] at he
        refine a_iload 0 dReader_readLine_39 rfl ?_
        refine a_aload_n 4 dReader_readLine_41 rfl rfl ?_
        refine a_callT (Q' := m_res (some (.int (nI (m_lens.getD i 0)))) (rM I (fK F s0 b0 p y.1 y.2.1) y.2.2.1 y.2.2.2.1 y.2.2.2.2) J R) (as := []) (st := [.int (nI j)]) dReader_readLine_42 ml7_131 rfl hi rfl (Nat.le_of_ble_eq_true rfl) (Nat.le_of_ble_eq_true rfl) rfl (Nat.le_refl _) (Nat.le_refl _) (c_String_length hi) (m_go ?_)
        show AW _ _ _ _ _ _ _ _ [.int (nI (m_lens.getD i 0)), .int (nI j)] _ _ _ _
        refine a_icmp_geN (tgt := 88) dReader_readLine_45 (by decide) (by omega) (by omega) (fun c => False.elim (by omega)) (fun _ => ?_)
        refine a_aload_n 1 dReader_readLine_48 rfl rfl ?_
        refine a_callV (Q' := m_res none (rM I (fK F (tkS (I 2) len p) (tkB (I 2) len p) (tkE (I 2) len p) y.1 y.2.1) y.2.2.1 y.2.2.2.1 y.2.2.2.2) J R) (as := []) (st := []) dReader_readLine_49 ml7_50 rfl (Nat.le_of_ble_eq_true rfl) ly_40 rfl rfl (by decide) (by omega) (Nat.le_of_ble_eq_true rfl) rfl (Nat.le_refl _) (Nat.le_refl _) (by have h := c_nextToken (S := S) (d := d + 4) (n := n) (J := J) (R := R) (I := m_row (m_row (m_row I 57 y.2.2.1) 58 y.2.2.2.1) 59 y.2.2.2.2) (F := fK F s0 b0 p y.1 y.2.1) (len := len) (p := p) hn hR hRt hlen hl6 hp rfl; rw [rM_c] at h; rw [show (m_row (m_row (m_row I 57 y.2.2.1) 58 y.2.2.2.1) 59 y.2.2.2.2) 2 = I 2 from rfl, fK_tk] at h; rw [rM_c] at h; exact h) (m_go ?_)
        show AW _ _ _ _ _ _ _ _ [] _ _ _ _
        refine a_aload_n 4 dReader_readLine_52 rfl rfl ?_
        refine a_iload 0 dReader_readLine_53 rfl ?_
        refine a_callT (Q' := m_res (some (.int ((m_byts.getD i []).getD j 0))) (rM I (fK F (tkS (I 2) len p) (tkB (I 2) len p) (tkE (I 2) len p) y.1 y.2.1) y.2.2.1 y.2.2.2.1 y.2.2.2.2) J R) (as := [.int (nI j)]) (st := []) dReader_readLine_55 ml7_136 rfl hi rfl (Nat.le_of_ble_eq_true rfl) (Nat.le_of_ble_eq_true rfl) rfl (Nat.le_refl _) (Nat.le_refl _) (c_String_charAt hi (j := j) (by omega)) (m_go ?_)
        show AW _ _ _ _ _ _ _ _ [.int ((m_byts.getD i []).getD j 0)] _ _ _ _
        refine a_bipushN (a := 107) dReader_readLine_58 (by decide) ?_
        refine a_icmp_ne (tgt := 73) dReader_readLine_60 (by decide) (fun c => False.elim (c hc)) (fun _ => ?_)
        refine a_aload_n 1 dReader_readLine_63 rfl rfl ?_
        refine a_callV (Q' := m_res (some (.int 1)) (rM I (fK F (tkS (I 2) len p) (tkB (I 2) len p) (tkE (I 2) len p) (y.1 + 1) y.2.1) (va_up y.2.2.1 y.1 (nI k)) y.2.2.2.1 y.2.2.2.2) J R) (as := []) (st := []) dReader_readLine_64 ml7_140 rfl (Nat.le_of_ble_eq_true rfl) ly_40 rfl rfl (by decide) (by omega) (Nat.le_of_ble_eq_true rfl) rfl (Nat.le_refl _) (Nat.le_refl _) (by have h := c_takeKind1 (S := S) (d := d) (n := n) (J := J) (R := R) (I := I) (F := fK F (tkS (I 2) len p) (tkB (I 2) len p) (tkE (I 2) len p) y.1 y.2.1) (K := y.2.2.1) (N := y.2.2.2.1) (P := y.2.2.2.2) (s := (tkS (I 2) len p)) (b := (tkB (I 2) len p)) (e := (tkE (I 2) len p)) hn hR hRt rfl rfl rfl hs9 he9.1 (by omega) hk4 hk rfl (by omega); rw [fK_k] at h; exact h) (m_go ?_)
        show AW _ _ _ _ _ _ _ _ [.int 1] _ _ _ _
        refine a_if_eq (tgt := 80) dReader_readLine_67 (by decide) (fun c => False.elim (absurd c (by decide))) (fun _ => ?_)
        refine a_goto (tgt := 82) dReader_readLine_70 (by decide) ?_
        refine a_iincN (lv' := [(4, .int (nI (j + 1))), (0, .ref 40), (1, .int x), (2, .int l), (3, .ref (1000010 + i))]) (j := 0) dReader_readLine_82 rfl (by decide) rfl ?_
        refine a_goto (tgt := 39) dReader_readLine_85 (by decide) ?_
        refine a_locs (lv' := [(4, .int (nI (j + 1))), (0, .ref 40), (1, .int x), (2, .int l), (3, .ref (1000010 + i))]) [0, 1, 2, 3, 4] rfl ?_
        exact ih (j + 1) _ (y.1 + 1, y.2.1, va_up y.2.2.1 y.1 (nI k), y.2.2.2.1, y.2.2.2.2) _ _ (by omega) he9.2 (by show y.1 + 1 ≤ j + 1; omega) (by show y.2.1 ≤ j + 1; omega) he
    · rw [if_neg hc] at he
      by_cases h2 : (tkS (I 2) len p) = 2
      · rw [if_pos h2] at he
        refine a_iload 0 dReader_readLine_39 rfl ?_
        refine a_aload_n 4 dReader_readLine_41 rfl rfl ?_
        refine a_callT (Q' := m_res (some (.int (nI (m_lens.getD i 0)))) (rM I (fK F s0 b0 p y.1 y.2.1) y.2.2.1 y.2.2.2.1 y.2.2.2.2) J R) (as := []) (st := [.int (nI j)]) dReader_readLine_42 ml7_131 rfl hi rfl (Nat.le_of_ble_eq_true rfl) (Nat.le_of_ble_eq_true rfl) rfl (Nat.le_refl _) (Nat.le_refl _) (c_String_length hi) (m_go ?_)
        show AW _ _ _ _ _ _ _ _ [.int (nI (m_lens.getD i 0)), .int (nI j)] _ _ _ _
        refine a_icmp_geN (tgt := 88) dReader_readLine_45 (by decide) (by omega) (by omega) (fun c => False.elim (by omega)) (fun _ => ?_)
        refine a_aload_n 1 dReader_readLine_48 rfl rfl ?_
        refine a_callV (Q' := m_res none (rM I (fK F (tkS (I 2) len p) (tkB (I 2) len p) (tkE (I 2) len p) y.1 y.2.1) y.2.2.1 y.2.2.2.1 y.2.2.2.2) J R) (as := []) (st := []) dReader_readLine_49 ml7_50 rfl (Nat.le_of_ble_eq_true rfl) ly_40 rfl rfl (by decide) (by omega) (Nat.le_of_ble_eq_true rfl) rfl (Nat.le_refl _) (Nat.le_refl _) (by have h := c_nextToken (S := S) (d := d + 4) (n := n) (J := J) (R := R) (I := m_row (m_row (m_row I 57 y.2.2.1) 58 y.2.2.2.1) 59 y.2.2.2.2) (F := fK F s0 b0 p y.1 y.2.1) (len := len) (p := p) hn hR hRt hlen hl6 hp rfl; rw [rM_c] at h; rw [show (m_row (m_row (m_row I 57 y.2.2.1) 58 y.2.2.2.1) 59 y.2.2.2.2) 2 = I 2 from rfl, fK_tk] at h; rw [rM_c] at h; exact h) (m_go ?_)
        show AW _ _ _ _ _ _ _ _ [] _ _ _ _
        refine a_aload_n 4 dReader_readLine_52 rfl rfl ?_
        refine a_iload 0 dReader_readLine_53 rfl ?_
        refine a_callT (Q' := m_res (some (.int ((m_byts.getD i []).getD j 0))) (rM I (fK F (tkS (I 2) len p) (tkB (I 2) len p) (tkE (I 2) len p) y.1 y.2.1) y.2.2.1 y.2.2.2.1 y.2.2.2.2) J R) (as := [.int (nI j)]) (st := []) dReader_readLine_55 ml7_136 rfl hi rfl (Nat.le_of_ble_eq_true rfl) (Nat.le_of_ble_eq_true rfl) rfl (Nat.le_refl _) (Nat.le_refl _) (c_String_charAt hi (j := j) (by omega)) (m_go ?_)
        show AW _ _ _ _ _ _ _ _ [.int ((m_byts.getD i []).getD j 0)] _ _ _ _
        refine a_bipushN (a := 107) dReader_readLine_58 (by decide) ?_
        refine a_icmp_ne (tgt := 73) dReader_readLine_60 (by decide) (fun _ => ?_) (fun c => False.elim (hc c))
        refine a_aload_n 1 dReader_readLine_73 rfl rfl ?_
        refine a_callV (Q' := m_res (some (.int 1)) (rM I (fK F (tkS (I 2) len p) (tkB (I 2) len p) (tkE (I 2) len p) y.1 (y.2.1 + 1)) y.2.2.1 (va_up y.2.2.2.1 y.2.1 (nvC (I 2) ((tkE (I 2) len p) - (tkB (I 2) len p)) (tkB (I 2) len p) (nI 0))) (va_up y.2.2.2.2 y.2.1 (nI (tkB (I 2) len p)))) J R) (as := []) (st := []) dReader_readLine_74 ml7_143 rfl (Nat.le_of_ble_eq_true rfl) ly_40 rfl rfl (by decide) (by omega) (Nat.le_of_ble_eq_true rfl) rfl (Nat.le_refl _) (Nat.le_refl _) (by have h := c_takeNumber1 (S := S) (d := d + 6) (n := n) (J := J) (R := R) (I := I) (F := fK F (tkS (I 2) len p) (tkB (I 2) len p) (tkE (I 2) len p) y.1 y.2.1) (K := y.2.2.1) (N := y.2.2.2.1) (P := y.2.2.2.2) (s := (tkS (I 2) len p)) (b := (tkB (I 2) len p)) (e := (tkE (I 2) len p)) hn hR hRt rfl rfl rfl hs9 he9.1 (by omega) h2 rfl (by omega); rw [fK_n] at h; exact h) (m_go ?_)
        show AW _ _ _ _ _ _ _ _ [.int 1] _ _ _ _
        refine a_if_ne (tgt := 82) dReader_readLine_77 (by decide) (fun _ => ?_) (fun c => False.elim (absurd c (by decide)))
        refine a_iincN (lv' := [(4, .int (nI (j + 1))), (0, .ref 40), (1, .int x), (2, .int l), (3, .ref (1000010 + i))]) (j := 0) dReader_readLine_82 rfl (by decide) rfl ?_
        refine a_goto (tgt := 39) dReader_readLine_85 (by decide) ?_
        refine a_locs (lv' := [(4, .int (nI (j + 1))), (0, .ref 40), (1, .int x), (2, .int l), (3, .ref (1000010 + i))]) [0, 1, 2, 3, 4] rfl ?_
        exact ih (j + 1) _ (y.1, y.2.1 + 1, y.2.2.1, va_up y.2.2.2.1 y.2.1 (nvC (I 2) ((tkE (I 2) len p) - (tkB (I 2) len p)) (tkB (I 2) len p) (nI 0)), va_up y.2.2.2.2 y.2.1 (nI (tkB (I 2) len p))) _ _ (by omega) he9.2 (by show y.1 ≤ j + 1; omega) (by show y.2.1 + 1 ≤ j + 1; omega) he
      · rw [if_neg h2] at he
        refine a_iload 0 dReader_readLine_39 rfl ?_
        refine a_aload_n 4 dReader_readLine_41 rfl rfl ?_
        refine a_callT (Q' := m_res (some (.int (nI (m_lens.getD i 0)))) (rM I (fK F s0 b0 p y.1 y.2.1) y.2.2.1 y.2.2.2.1 y.2.2.2.2) J R) (as := []) (st := [.int (nI j)]) dReader_readLine_42 ml7_131 rfl hi rfl (Nat.le_of_ble_eq_true rfl) (Nat.le_of_ble_eq_true rfl) rfl (Nat.le_refl _) (Nat.le_refl _) (c_String_length hi) (m_go ?_)
        show AW _ _ _ _ _ _ _ _ [.int (nI (m_lens.getD i 0)), .int (nI j)] _ _ _ _
        refine a_icmp_geN (tgt := 88) dReader_readLine_45 (by decide) (by omega) (by omega) (fun c => False.elim (by omega)) (fun _ => ?_)
        refine a_aload_n 1 dReader_readLine_48 rfl rfl ?_
        refine a_callV (Q' := m_res none (rM I (fK F (tkS (I 2) len p) (tkB (I 2) len p) (tkE (I 2) len p) y.1 y.2.1) y.2.2.1 y.2.2.2.1 y.2.2.2.2) J R) (as := []) (st := []) dReader_readLine_49 ml7_50 rfl (Nat.le_of_ble_eq_true rfl) ly_40 rfl rfl (by decide) (by omega) (Nat.le_of_ble_eq_true rfl) rfl (Nat.le_refl _) (Nat.le_refl _) (by have h := c_nextToken (S := S) (d := d + 4) (n := n) (J := J) (R := R) (I := m_row (m_row (m_row I 57 y.2.2.1) 58 y.2.2.2.1) 59 y.2.2.2.2) (F := fK F s0 b0 p y.1 y.2.1) (len := len) (p := p) hn hR hRt hlen hl6 hp rfl; rw [rM_c] at h; rw [show (m_row (m_row (m_row I 57 y.2.2.1) 58 y.2.2.2.1) 59 y.2.2.2.2) 2 = I 2 from rfl, fK_tk] at h; rw [rM_c] at h; exact h) (m_go ?_)
        show AW _ _ _ _ _ _ _ _ [] _ _ _ _
        refine a_aload_n 4 dReader_readLine_52 rfl rfl ?_
        refine a_iload 0 dReader_readLine_53 rfl ?_
        refine a_callT (Q' := m_res (some (.int ((m_byts.getD i []).getD j 0))) (rM I (fK F (tkS (I 2) len p) (tkB (I 2) len p) (tkE (I 2) len p) y.1 y.2.1) y.2.2.1 y.2.2.2.1 y.2.2.2.2) J R) (as := [.int (nI j)]) (st := []) dReader_readLine_55 ml7_136 rfl hi rfl (Nat.le_of_ble_eq_true rfl) (Nat.le_of_ble_eq_true rfl) rfl (Nat.le_refl _) (Nat.le_refl _) (c_String_charAt hi (j := j) (by omega)) (m_go ?_)
        show AW _ _ _ _ _ _ _ _ [.int ((m_byts.getD i []).getD j 0)] _ _ _ _
        refine a_bipushN (a := 107) dReader_readLine_58 (by decide) ?_
        refine a_icmp_ne (tgt := 73) dReader_readLine_60 (by decide) (fun _ => ?_) (fun c => False.elim (hc c))
        refine a_aload_n 1 dReader_readLine_73 rfl rfl ?_
        refine a_callV (Q' := m_res (some (.int 0)) (rM I (fK F (tkS (I 2) len p) (tkB (I 2) len p) (tkE (I 2) len p) y.1 y.2.1) y.2.2.1 y.2.2.2.1 y.2.2.2.2) J R) (as := []) (st := []) dReader_readLine_74 ml7_143 rfl (Nat.le_of_ble_eq_true rfl) ly_40 rfl rfl (by decide) (by omega) (Nat.le_of_ble_eq_true rfl) rfl (Nat.le_refl _) (Nat.le_refl _) (c_takeNumber0 (I := I) (F := fK F (tkS (I 2) len p) (tkB (I 2) len p) (tkE (I 2) len p) y.1 y.2.1) (s := (tkS (I 2) len p)) (b := (tkB (I 2) len p)) (e := (tkE (I 2) len p)) hn hR hRt rfl rfl rfl hs9 he9.1 (by omega) h2) (m_go ?_)
        show AW _ _ _ _ _ _ _ _ [.int 0] _ _ _ _
        refine a_if_ne (tgt := 82) dReader_readLine_77 (by decide) (fun c => False.elim (absurd rfl c)) (fun _ => ?_)
        refine a_iconstN (a := 0) dReader_readLine_80 (by decide) ?_
        exact a_zret dReader_readLine_81 rfl (by rfl) (by obtain ⟨e1, e2, e3⟩ : (false = o9) ∧ (p = p9) ∧ (y = y9) := ⟨congrArg (fun q => q.1) he, congrArg (fun q => q.2.1) he, congrArg (fun q => q.2.2) he⟩; subst e2; subst e3; exact hF e1.symm)
