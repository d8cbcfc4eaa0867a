theorem c_readLineN {S : Nat × (Nat → Int32)} {d n : Nat} {I : mI} {J : mJ} {R : mR} (hn : 122 ≤ n) (hR : m_fin R) (hRt : R 40 5 = some 2) {F K N P : Nat → Int32} {len : Nat} (hlen : F 6 = nI len) (hl6 : len ≤ 600) {s b e : Nat} (h7 : F 7 = nI s) (h8 : F 8 = nI b) (h9 : F 9 = nI e) (hs : s ≤ 4) (hbe : b ≤ e) (hel : e ≤ len) {x : Int32} (hln : laC (I 2) s b e x = -1)  : RUN S (d + 7) YReader_readLine [.ref 40, .int x] (m_row (m_row (m_row (m_row I 40 F) 57 K) 58 N) 59 P) J R n (some (.int 0)) (m_row (m_row (m_row (m_row I 40 F) 57 K) 58 N) 59 P) J R n := by
  show AW S _ YReader_readLine n n _ 0 [(0, .ref 40), (1, .int x)] [] (m_row (m_row (m_row (m_row I 40 F) 57 K) 58 N) 59 P) J R n
  refine a_aload_n 0 dReader_readLine_0 rfl rfl ?_
  refine a_iload_n 1 dReader_readLine_1 rfl rfl ?_
  refine a_callV (Q' := m_res (some (.int (-1))) (m_row (m_row (m_row (m_row I 40 F) 57 K) 58 N) 59 P) J R) (as := [.int x]) (st := []) dReader_readLine_2 ml7_114 rfl (Nat.le_of_ble_eq_true rfl) ly_40 rfl rfl (by decide) (by omega) (Nat.le_of_ble_eq_true rfl) rfl (Nat.le_refl _) (Nat.le_refl _) (by have h := c_lineAtHand (S := S) (d := d) (n := n) (J := J) (R := R) (I := m_row (m_row (m_row I 57 K) 58 N) 59 P) (F := F) hn hR hRt h7 h8 h9 hs hbe (by omega) (x := x); rw [rM_c] at h; rw [show (m_row (m_row (m_row I 57 K) 58 N) 59 P) 2 = I 2 from rfl, hln] at h; exact h) (m_go ?_)
  show AW _ _ _ _ _ _ _ _ [.int (-1)] _ _ _ _
  refine a_istore_n (lv' := [(2, .int (-1)), (0, .ref 40), (1, .int x)]) dReader_readLine_5 rfl (by decide) rfl ?_
  refine a_iload_n 0 dReader_readLine_6 rfl rfl ?_
  refine a_iconst (v := -1) dReader_readLine_7 (by decide) ?_
  refine a_icmp_ne (tgt := 13) dReader_readLine_8 (by decide) (fun c => False.elim (c rfl)) (fun _ => ?_)
  refine a_iconstN (a := 0) dReader_readLine_11 (by decide) ?_
  exact a_zret dReader_readLine_12 rfl (by rfl) ⟨rfl, rfl, rfl, rfl⟩
abbrev rlX (T : Nat → Int32) (len i L e : Nat) (K N P : Nat → Int32) : Bool × Nat × rs5 := shF T len i L 0 e (0, 0, K, N, P)
abbrev rlF (F : Nat → Int32) (b : Nat) (T : Nat → Int32) (len : Nat) (X : Bool × Nat × rs5) : Nat → Int32 := fK (va_up F 10 (nI b)) (tkS T len X.2.1) (tkB T len X.2.1) (tkE T len X.2.1) X.2.2.1 X.2.2.2.1
abbrev rlM (I : mI) (F : Nat → Int32) (b len : Nat) (X : Bool × Nat × rs5) : mI := rM I (rlF F b (I 2) len X) X.2.2.2.2.1 X.2.2.2.2.2.1 X.2.2.2.2.2.2
theorem r_line0 {S : Nat × (Nat → Int32)} {d n : Nat} {I : mI} {J : mJ} {R : mR} (hn : 122 ≤ n) (hR : m_fin R) (hRt : R 40 5 = some 2) {F K N P : Nat → Int32} {len : Nat} (hlen : F 6 = nI len) (hl6 : len ≤ 600) {s b e : Nat} (h7 : F 7 = nI s) (h8 : F 8 = nI b) (h9 : F 9 = nI e) (hs : s ≤ 4) (hbe : b ≤ e) (hel : e ≤ len) {x : Int32} (hln : laC (I 2) s b e x = nI 0) {Q : Option Value → mI → mJ → mR → Prop} (hQ0 : ((rlX (I 2) len 9 1 e K N P).1 = false ∨ ¬ tkS (I 2) len (rlX (I 2) len 9 1 e K N P).2.1 = 3) → Q (some (.int 0)) (rlM I F b len (rlX (I 2) len 9 1 e K N P)) J R) (hx : (rlX (I 2) len 9 1 e K N P).1 = true → tkS (I 2) len (rlX (I 2) len 9 1 e K N P).2.1 = 3 → AW S (d + 7) YReader_readLine n n Q 102 [(4, .int (nI 1)), (0, .ref 40), (1, .int x), (2, .int (nI 0)), (3, .ref (1000010 + 9))] [] (rlM I F b len (rlX (I 2) len 9 1 e K N P)) J R n) : AW S (d + 7) YReader_readLine n n Q 0 [(0, .ref 40), (1, .int x)] [] (m_row (m_row (m_row (m_row I 40 F) 57 K) 58 N) 59 P) J R n := by
  refine a_aload_n 0 dReader_readLine_0 rfl rfl ?_
  refine a_iload_n 1 dReader_readLine_1 rfl rfl ?_
  refine a_callV (Q' := m_res (some (.int (nI 0))) (m_row (m_row (m_row (m_row I 40 F) 57 K) 58 N) 59 P) J R) (as := [.int x]) (st := []) dReader_readLine_2 ml7_114 rfl (Nat.le_of_ble_eq_true rfl) ly_40 rfl rfl (by decide) (by omega) (Nat.le_of_ble_eq_true rfl) rfl (Nat.le_refl _) (Nat.le_refl _) (by have h := c_lineAtHand (S := S) (d := d) (n := n) (J := J) (R := R) (I := m_row (m_row (m_row I 57 K) 58 N) 59 P) (F := F) hn hR hRt h7 h8 h9 hs hbe (by omega) (x := x); rw [rM_c] at h; rw [show (m_row (m_row (m_row I 57 K) 58 N) 59 P) 2 = I 2 from rfl, hln] at h; exact h) (m_go ?_)
  show AW _ _ _ _ _ _ _ _ [.int (nI 0)] _ _ _ _
  refine a_istore_n (lv' := [(2, .int (nI 0)), (0, .ref 40), (1, .int x)]) dReader_readLine_5 rfl (by decide) rfl ?_
  refine a_iload_n 0 dReader_readLine_6 rfl rfl ?_
  refine a_iconst (v := -1) dReader_readLine_7 (by decide) ?_
  refine a_icmp_ne (tgt := 13) dReader_readLine_8 (by decide) (fun _ => ?_) (fun c => False.elim (absurd c (by decide)))
  refine a_aload_n 1 dReader_readLine_13 rfl rfl ?_
  refine a_aload_n 1 dReader_readLine_14 rfl rfl ?_
  refine a_geti dReader_readLine_15 fl7_63 rfl ly_40 (by omega) ?_
  rw [show (m_row (m_row (m_row (m_row I 40 F) 57 K) 58 N) 59 P) 40 8 = (nI b) from h8]
  refine a_puti dReader_readLine_18 fl7_118 rfl ly_40 (by omega) ?_
  rw [show m_up (m_row (m_row (m_row (m_row I 40 F) 57 K) 58 N) 59 P) 40 10 (nI b) = (m_row (m_row (m_row (m_row I 40 (va_up F 10 (nI b))) 57 K) 58 N) 59 P) from (by rw [m_up_comm (by decide), m_up_comm (by decide), m_up_comm (by decide), m_up_r])]
  refine a_aload_n 1 dReader_readLine_21 rfl rfl ?_
  refine a_iconstN (a := 0) dReader_readLine_22 (by decide) ?_
  refine a_puti dReader_readLine_23 fl7_121 rfl ly_40 (by omega) ?_
  rw [show m_up (m_row (m_row (m_row (m_row I 40 (va_up F 10 (nI b))) 57 K) 58 N) 59 P) 40 12 (nI 0) = (m_row (m_row (m_row (m_row I 40 (va_up (va_up F 10 (nI b)) 12 (nI 0))) 57 K) 58 N) 59 P) from (by rw [m_up_comm (by decide), m_up_comm (by decide), m_up_comm (by decide), m_up_r])]
  refine a_aload_n 1 dReader_readLine_26 rfl rfl ?_
  refine a_iconstN (a := 0) dReader_readLine_27 (by decide) ?_
  refine a_puti dReader_readLine_28 fl7_124 rfl ly_40 (by omega) ?_
  rw [show m_up (m_row (m_row (m_row (m_row I 40 (va_up (va_up F 10 (nI b)) 12 (nI 0))) 57 K) 58 N) 59 P) 40 15 (nI 0) = (m_row (m_row (m_row (m_row I 40 (va_up (va_up (va_up F 10 (nI b)) 12 (nI 0)) 15 (nI 0))) 57 K) 58 N) 59 P) from (by rw [m_up_comm (by decide), m_up_comm (by decide), m_up_comm (by decide), m_up_r])]
  refine a_iload_n 0 dReader_readLine_31 rfl rfl ?_
  refine a_callS (Q' := m_res (some (.ref (1000010 + 9))) (m_row (m_row (m_row (m_row I 40 (va_up (va_up (va_up F 10 (nI b)) 12 (nI 0)) 15 (nI 0))) 57 K) 58 N) 59 P) J R) (as := [.int (nI 0)]) (st := []) dReader_readLine_32 ml7_127 rfl (Nat.le_of_ble_eq_true rfl) (Nat.le_of_ble_eq_true rfl) rfl (Nat.le_refl _) (Nat.le_refl _) c_shape0 (m_go ?_)
  show AW _ _ _ _ _ _ _ _ [.ref (1000010 + 9)] _ _ _ _
  refine a_astore_n (lv' := [(3, .ref (1000010 + 9)), (2, .int (nI 0)), (0, .ref 40), (1, .int x)]) dReader_readLine_35 rfl (by decide) rfl ?_
  refine a_iconstN (a := 0) dReader_readLine_36 (by decide) ?_
  refine a_istore (lv' := [(4, .int (nI 0)), (3, .ref (1000010 + 9)), (2, .int (nI 0)), (0, .ref 40), (1, .int x)]) dReader_readLine_37 (by decide) rfl ?_
  refine a_mem (show _ = rM I (fK (va_up F 10 (nI b)) s b e 0 0) K N P by rw [fK_self (G := va_up F 10 (nI b)) h7 h8 h9]) ?_
  refine a_locs (lv' := [(4, .int (nI 0)), (0, .ref 40), (1, .int x), (2, .int (nI 0)), (3, .ref (1000010 + 9))]) [0, 3, 4, 2, 1] rfl ?_
  have hX := shF_le (T := I 2) (i := 9) 1 0 e (0, 0, K, N, P) hel
  refine l_rdS (F := va_up F 10 (nI b)) hn hR hRt hlen hl6 (i := 9) (by decide) (by decide) (o9 := (rlX (I 2) len 9 1 e K N P).1) (p9 := (rlX (I 2) len 9 1 e K N P).2.1) (y9 := (rlX (I 2) len 9 1 e K N P).2.2) (fun h => hQ0 (Or.inl h)) (fun h s1 b1 => ?_) 1 0 e (0, 0, K, N, P) s b rfl hel (Nat.le_refl _) (Nat.le_refl _) rfl
  have hs8 := tkS_le (T := I 2) (len := len) (p := (rlX (I 2) len 9 1 e K N P).2.1)
  refine a_aload_n 1 dReader_readLine_88 rfl rfl ?_
  refine a_callV (Q' := m_res none (rlM I F b len (rlX (I 2) len 9 1 e K N P)) J R) (as := []) (st := []) dReader_readLine_89 ml7_50 rfl (Nat.le_of_ble_eq_true rfl) ly_40 rfl rfl (by decide) (by omega) (Nat.le_of_ble_eq_true rfl) rfl (Nat.le_refl _) (Nat.le_refl _) (by have h := c_nextToken (S := S) (d := d + 4) (n := n) (J := J) (R := R) (I := m_row (m_row (m_row I 57 (rlX (I 2) len 9 1 e K N P).2.2.2.2.1) 58 (rlX (I 2) len 9 1 e K N P).2.2.2.2.2.1) 59 (rlX (I 2) len 9 1 e K N P).2.2.2.2.2.2) (F := fK (va_up F 10 (nI b)) s1 b1 (rlX (I 2) len 9 1 e K N P).2.1 (rlX (I 2) len 9 1 e K N P).2.2.1 (rlX (I 2) len 9 1 e K N P).2.2.2.1) (len := len) (p := (rlX (I 2) len 9 1 e K N P).2.1) hn hR hRt hlen hl6 hX.2 rfl; rw [rM_c] at h; rw [show (m_row (m_row (m_row I 57 (rlX (I 2) len 9 1 e K N P).2.2.2.2.1) 58 (rlX (I 2) len 9 1 e K N P).2.2.2.2.2.1) 59 (rlX (I 2) len 9 1 e K N P).2.2.2.2.2.2) 2 = I 2 from rfl, fK_tk] at h; rw [rM_c] at h; exact h) (m_go ?_)
  show AW _ _ _ _ _ _ _ _ [] _ _ _ _
  refine a_aload_n 1 dReader_readLine_92 rfl rfl ?_
  refine a_geti dReader_readLine_93 fl7_53 rfl ly_40 (by omega) ?_
  rw [show (rlM I F b len (rlX (I 2) len 9 1 e K N P)) 40 7 = (nI (tkS (I 2) len (rlX (I 2) len 9 1 e K N P).2.1)) from rfl]
  refine a_iconstN (a := 3) dReader_readLine_96 (by decide) ?_
  refine a_icmp_eqN (tgt := 102) dReader_readLine_97 (by decide) (by omega) (by omega) (fun c97 => ?_) (fun c97 => ?_)
  · exact hx h (by omega)
  · refine a_iconstN (a := 0) dReader_readLine_100 (by decide) ?_
    exact a_zret dReader_readLine_101 rfl (by rfl) (hQ0 (Or.inr (by omega)))
theorem r_line1 {S : Nat × (Nat → Int32)} {d n : Nat} {I : mI} {J : mJ} {R : mR} (hn : 122 ≤ n) (hR : m_fin R) (hRt : R 40 5 = some 2) {F K N P : Nat → Int32} {len : Nat} (hlen : F 6 = nI len) (hl6 : len ≤ 600) {s b e : Nat} (h7 : F 7 = nI s) (h8 : F 8 = nI b) (h9 : F 9 = nI e) (hs : s ≤ 4) (hbe : b ≤ e) (hel : e ≤ len) {x : Int32} (hln : laC (I 2) s b e x = nI 1) {Q : Option Value → mI → mJ → mR → Prop} (hQ0 : ((rlX (I 2) len 14 2 e K N P).1 = false ∨ ¬ tkS (I 2) len (rlX (I 2) len 14 2 e K N P).2.1 = 3) → Q (some (.int 0)) (rlM I F b len (rlX (I 2) len 14 2 e K N P)) J R) (hx : (rlX (I 2) len 14 2 e K N P).1 = true → tkS (I 2) len (rlX (I 2) len 14 2 e K N P).2.1 = 3 → AW S (d + 7) YReader_readLine n n Q 102 [(4, .int (nI 2)), (0, .ref 40), (1, .int x), (2, .int (nI 1)), (3, .ref (1000010 + 14))] [] (rlM I F b len (rlX (I 2) len 14 2 e K N P)) J R n) : AW S (d + 7) YReader_readLine n n Q 0 [(0, .ref 40), (1, .int x)] [] (m_row (m_row (m_row (m_row I 40 F) 57 K) 58 N) 59 P) J R n := by
  refine a_aload_n 0 dReader_readLine_0 rfl rfl ?_
  refine a_iload_n 1 dReader_readLine_1 rfl rfl ?_
  refine a_callV (Q' := m_res (some (.int (nI 1))) (m_row (m_row (m_row (m_row I 40 F) 57 K) 58 N) 59 P) J R) (as := [.int x]) (st := []) dReader_readLine_2 ml7_114 rfl (Nat.le_of_ble_eq_true rfl) ly_40 rfl rfl (by decide) (by omega) (Nat.le_of_ble_eq_true rfl) rfl (Nat.le_refl _) (Nat.le_refl _) (by have h := c_lineAtHand (S := S) (d := d) (n := n) (J := J) (R := R) (I := m_row (m_row (m_row I 57 K) 58 N) 59 P) (F := F) hn hR hRt h7 h8 h9 hs hbe (by omega) (x := x); rw [rM_c] at h; rw [show (m_row (m_row (m_row I 57 K) 58 N) 59 P) 2 = I 2 from rfl, hln] at h; exact h) (m_go ?_)
  show AW _ _ _ _ _ _ _ _ [.int (nI 1)] _ _ _ _
  refine a_istore_n (lv' := [(2, .int (nI 1)), (0, .ref 40), (1, .int x)]) dReader_readLine_5 rfl (by decide) rfl ?_
  refine a_iload_n 0 dReader_readLine_6 rfl rfl ?_
  refine a_iconst (v := -1) dReader_readLine_7 (by decide) ?_
  refine a_icmp_ne (tgt := 13) dReader_readLine_8 (by decide) (fun _ => ?_) (fun c => False.elim (absurd c (by decide)))
  refine a_aload_n 1 dReader_readLine_13 rfl rfl ?_
  refine a_aload_n 1 dReader_readLine_14 rfl rfl ?_
  refine a_geti dReader_readLine_15 fl7_63 rfl ly_40 (by omega) ?_
  rw [show (m_row (m_row (m_row (m_row I 40 F) 57 K) 58 N) 59 P) 40 8 = (nI b) from h8]
  refine a_puti dReader_readLine_18 fl7_118 rfl ly_40 (by omega) ?_
  rw [show m_up (m_row (m_row (m_row (m_row I 40 F) 57 K) 58 N) 59 P) 40 10 (nI b) = (m_row (m_row (m_row (m_row I 40 (va_up F 10 (nI b))) 57 K) 58 N) 59 P) from (by rw [m_up_comm (by decide), m_up_comm (by decide), m_up_comm (by decide), m_up_r])]
  refine a_aload_n 1 dReader_readLine_21 rfl rfl ?_
  refine a_iconstN (a := 0) dReader_readLine_22 (by decide) ?_
  refine a_puti dReader_readLine_23 fl7_121 rfl ly_40 (by omega) ?_
  rw [show m_up (m_row (m_row (m_row (m_row I 40 (va_up F 10 (nI b))) 57 K) 58 N) 59 P) 40 12 (nI 0) = (m_row (m_row (m_row (m_row I 40 (va_up (va_up F 10 (nI b)) 12 (nI 0))) 57 K) 58 N) 59 P) from (by rw [m_up_comm (by decide), m_up_comm (by decide), m_up_comm (by decide), m_up_r])]
  refine a_aload_n 1 dReader_readLine_26 rfl rfl ?_
  refine a_iconstN (a := 0) dReader_readLine_27 (by decide) ?_
  refine a_puti dReader_readLine_28 fl7_124 rfl ly_40 (by omega) ?_
  rw [show m_up (m_row (m_row (m_row (m_row I 40 (va_up (va_up F 10 (nI b)) 12 (nI 0))) 57 K) 58 N) 59 P) 40 15 (nI 0) = (m_row (m_row (m_row (m_row I 40 (va_up (va_up (va_up F 10 (nI b)) 12 (nI 0)) 15 (nI 0))) 57 K) 58 N) 59 P) from (by rw [m_up_comm (by decide), m_up_comm (by decide), m_up_comm (by decide), m_up_r])]
  refine a_iload_n 0 dReader_readLine_31 rfl rfl ?_
  refine a_callS (Q' := m_res (some (.ref (1000010 + 14))) (m_row (m_row (m_row (m_row I 40 (va_up (va_up (va_up F 10 (nI b)) 12 (nI 0)) 15 (nI 0))) 57 K) 58 N) 59 P) J R) (as := [.int (nI 1)]) (st := []) dReader_readLine_32 ml7_127 rfl (Nat.le_of_ble_eq_true rfl) (Nat.le_of_ble_eq_true rfl) rfl (Nat.le_refl _) (Nat.le_refl _) c_shape1 (m_go ?_)
  show AW _ _ _ _ _ _ _ _ [.ref (1000010 + 14)] _ _ _ _
  refine a_astore_n (lv' := [(3, .ref (1000010 + 14)), (2, .int (nI 1)), (0, .ref 40), (1, .int x)]) dReader_readLine_35 rfl (by decide) rfl ?_
  refine a_iconstN (a := 0) dReader_readLine_36 (by decide) ?_
  refine a_istore (lv' := [(4, .int (nI 0)), (3, .ref (1000010 + 14)), (2, .int (nI 1)), (0, .ref 40), (1, .int x)]) dReader_readLine_37 (by decide) rfl ?_
  refine a_mem (show _ = rM I (fK (va_up F 10 (nI b)) s b e 0 0) K N P by rw [fK_self (G := va_up F 10 (nI b)) h7 h8 h9]) ?_
  refine a_locs (lv' := [(4, .int (nI 0)), (0, .ref 40), (1, .int x), (2, .int (nI 1)), (3, .ref (1000010 + 14))]) [0, 3, 4, 2, 1] rfl ?_
  have hX := shF_le (T := I 2) (i := 14) 2 0 e (0, 0, K, N, P) hel
  refine l_rdS (F := va_up F 10 (nI b)) hn hR hRt hlen hl6 (i := 14) (by decide) (by decide) (o9 := (rlX (I 2) len 14 2 e K N P).1) (p9 := (rlX (I 2) len 14 2 e K N P).2.1) (y9 := (rlX (I 2) len 14 2 e K N P).2.2) (fun h => hQ0 (Or.inl h)) (fun h s1 b1 => ?_) 2 0 e (0, 0, K, N, P) s b rfl hel (Nat.le_refl _) (Nat.le_refl _) rfl
  have hs8 := tkS_le (T := I 2) (len := len) (p := (rlX (I 2) len 14 2 e K N P).2.1)
  refine a_aload_n 1 dReader_readLine_88 rfl rfl ?_
  refine a_callV (Q' := m_res none (rlM I F b len (rlX (I 2) len 14 2 e K N P)) J R) (as := []) (st := []) dReader_readLine_89 ml7_50 rfl (Nat.le_of_ble_eq_true rfl) ly_40 rfl rfl (by decide) (by omega) (Nat.le_of_ble_eq_true rfl) rfl (Nat.le_refl _) (Nat.le_refl _) (by have h := c_nextToken (S := S) (d := d + 4) (n := n) (J := J) (R := R) (I := m_row (m_row (m_row I 57 (rlX (I 2) len 14 2 e K N P).2.2.2.2.1) 58 (rlX (I 2) len 14 2 e K N P).2.2.2.2.2.1) 59 (rlX (I 2) len 14 2 e K N P).2.2.2.2.2.2) (F := fK (va_up F 10 (nI b)) s1 b1 (rlX (I 2) len 14 2 e K N P).2.1 (rlX (I 2) len 14 2 e K N P).2.2.1 (rlX (I 2) len 14 2 e K N P).2.2.2.1) (len := len) (p := (rlX (I 2) len 14 2 e K N P).2.1) hn hR hRt hlen hl6 hX.2 rfl; rw [rM_c] at h; rw [show (m_row (m_row (m_row I 57 (rlX (I 2) len 14 2 e K N P).2.2.2.2.1) 58 (rlX (I 2) len 14 2 e K N P).2.2.2.2.2.1) 59 (rlX (I 2) len 14 2 e K N P).2.2.2.2.2.2) 2 = I 2 from rfl, fK_tk] at h; rw [rM_c] at h; exact h) (m_go ?_)
  show AW _ _ _ _ _ _ _ _ [] _ _ _ _
  refine a_aload_n 1 dReader_readLine_92 rfl rfl ?_
  refine a_geti dReader_readLine_93 fl7_53 rfl ly_40 (by omega) ?_
  rw [show (rlM I F b len (rlX (I 2) len 14 2 e K N P)) 40 7 = (nI (tkS (I 2) len (rlX (I 2) len 14 2 e K N P).2.1)) from rfl]
  refine a_iconstN (a := 3) dReader_readLine_96 (by decide) ?_
  refine a_icmp_eqN (tgt := 102) dReader_readLine_97 (by decide) (by omega) (by omega) (fun c97 => ?_) (fun c97 => ?_)
  · exact hx h (by omega)
  · refine a_iconstN (a := 0) dReader_readLine_100 (by decide) ?_
    exact a_zret dReader_readLine_101 rfl (by rfl) (hQ0 (Or.inr (by omega)))
theorem r_line2 {S : Nat × (Nat → Int32)} {d n : Nat} {I : mI} {J : mJ} {R : mR} (hn : 122 ≤ n) (hR : m_fin R) (hRt : R 40 5 = some 2) {F K N P : Nat → Int32} {len : Nat} (hlen : F 6 = nI len) (hl6 : len ≤ 600) {s b e : Nat} (h7 : F 7 = nI s) (h8 : F 8 = nI b) (h9 : F 9 = nI e) (hs : s ≤ 4) (hbe : b ≤ e) (hel : e ≤ len) {x : Int32} (hln : laC (I 2) s b e x = nI 2) {Q : Option Value → mI → mJ → mR → Prop} (hQ0 : ((rlX (I 2) len 10 3 e K N P).1 = false ∨ ¬ tkS (I 2) len (rlX (I 2) len 10 3 e K N P).2.1 = 3) → Q (some (.int 0)) (rlM I F b len (rlX (I 2) len 10 3 e K N P)) J R) (hx : (rlX (I 2) len 10 3 e K N P).1 = true → tkS (I 2) len (rlX (I 2) len 10 3 e K N P).2.1 = 3 → AW S (d + 7) YReader_readLine n n Q 102 [(4, .int (nI 3)), (0, .ref 40), (1, .int x), (2, .int (nI 2)), (3, .ref (1000010 + 10))] [] (rlM I F b len (rlX (I 2) len 10 3 e K N P)) J R n) : AW S (d + 7) YReader_readLine n n Q 0 [(0, .ref 40), (1, .int x)] [] (m_row (m_row (m_row (m_row I 40 F) 57 K) 58 N) 59 P) J R n := by
  refine a_aload_n 0 dReader_readLine_0 rfl rfl ?_
  refine a_iload_n 1 dReader_readLine_1 rfl rfl ?_
  refine a_callV (Q' := m_res (some (.int (nI 2))) (m_row (m_row (m_row (m_row I 40 F) 57 K) 58 N) 59 P) J R) (as := [.int x]) (st := []) dReader_readLine_2 ml7_114 rfl (Nat.le_of_ble_eq_true rfl) ly_40 rfl rfl (by decide) (by omega) (Nat.le_of_ble_eq_true rfl) rfl (Nat.le_refl _) (Nat.le_refl _) (by have h := c_lineAtHand (S := S) (d := d) (n := n) (J := J) (R := R) (I := m_row (m_row (m_row I 57 K) 58 N) 59 P) (F := F) hn hR hRt h7 h8 h9 hs hbe (by omega) (x := x); rw [rM_c] at h; rw [show (m_row (m_row (m_row I 57 K) 58 N) 59 P) 2 = I 2 from rfl, hln] at h; exact h) (m_go ?_)
  show AW _ _ _ _ _ _ _ _ [.int (nI 2)] _ _ _ _
  refine a_istore_n (lv' := [(2, .int (nI 2)), (0, .ref 40), (1, .int x)]) dReader_readLine_5 rfl (by decide) rfl ?_
  refine a_iload_n 0 dReader_readLine_6 rfl rfl ?_
  refine a_iconst (v := -1) dReader_readLine_7 (by decide) ?_
  refine a_icmp_ne (tgt := 13) dReader_readLine_8 (by decide) (fun _ => ?_) (fun c => False.elim (absurd c (by decide)))
  refine a_aload_n 1 dReader_readLine_13 rfl rfl ?_
  refine a_aload_n 1 dReader_readLine_14 rfl rfl ?_
  refine a_geti dReader_readLine_15 fl7_63 rfl ly_40 (by omega) ?_
  rw [show (m_row (m_row (m_row (m_row I 40 F) 57 K) 58 N) 59 P) 40 8 = (nI b) from h8]
  refine a_puti dReader_readLine_18 fl7_118 rfl ly_40 (by omega) ?_
  rw [show m_up (m_row (m_row (m_row (m_row I 40 F) 57 K) 58 N) 59 P) 40 10 (nI b) = (m_row (m_row (m_row (m_row I 40 (va_up F 10 (nI b))) 57 K) 58 N) 59 P) from (by rw [m_up_comm (by decide), m_up_comm (by decide), m_up_comm (by decide), m_up_r])]
  refine a_aload_n 1 dReader_readLine_21 rfl rfl ?_
  refine a_iconstN (a := 0) dReader_readLine_22 (by decide) ?_
  refine a_puti dReader_readLine_23 fl7_121 rfl ly_40 (by omega) ?_
  rw [show m_up (m_row (m_row (m_row (m_row I 40 (va_up F 10 (nI b))) 57 K) 58 N) 59 P) 40 12 (nI 0) = (m_row (m_row (m_row (m_row I 40 (va_up (va_up F 10 (nI b)) 12 (nI 0))) 57 K) 58 N) 59 P) from (by rw [m_up_comm (by decide), m_up_comm (by decide), m_up_comm (by decide), m_up_r])]
  refine a_aload_n 1 dReader_readLine_26 rfl rfl ?_
  refine a_iconstN (a := 0) dReader_readLine_27 (by decide) ?_
  refine a_puti dReader_readLine_28 fl7_124 rfl ly_40 (by omega) ?_
  rw [show m_up (m_row (m_row (m_row (m_row I 40 (va_up (va_up F 10 (nI b)) 12 (nI 0))) 57 K) 58 N) 59 P) 40 15 (nI 0) = (m_row (m_row (m_row (m_row I 40 (va_up (va_up (va_up F 10 (nI b)) 12 (nI 0)) 15 (nI 0))) 57 K) 58 N) 59 P) from (by rw [m_up_comm (by decide), m_up_comm (by decide), m_up_comm (by decide), m_up_r])]
  refine a_iload_n 0 dReader_readLine_31 rfl rfl ?_
  refine a_callS (Q' := m_res (some (.ref (1000010 + 10))) (m_row (m_row (m_row (m_row I 40 (va_up (va_up (va_up F 10 (nI b)) 12 (nI 0)) 15 (nI 0))) 57 K) 58 N) 59 P) J R) (as := [.int (nI 2)]) (st := []) dReader_readLine_32 ml7_127 rfl (Nat.le_of_ble_eq_true rfl) (Nat.le_of_ble_eq_true rfl) rfl (Nat.le_refl _) (Nat.le_refl _) c_shape2 (m_go ?_)
  show AW _ _ _ _ _ _ _ _ [.ref (1000010 + 10)] _ _ _ _
  refine a_astore_n (lv' := [(3, .ref (1000010 + 10)), (2, .int (nI 2)), (0, .ref 40), (1, .int x)]) dReader_readLine_35 rfl (by decide) rfl ?_
  refine a_iconstN (a := 0) dReader_readLine_36 (by decide) ?_
  refine a_istore (lv' := [(4, .int (nI 0)), (3, .ref (1000010 + 10)), (2, .int (nI 2)), (0, .ref 40), (1, .int x)]) dReader_readLine_37 (by decide) rfl ?_
  refine a_mem (show _ = rM I (fK (va_up F 10 (nI b)) s b e 0 0) K N P by rw [fK_self (G := va_up F 10 (nI b)) h7 h8 h9]) ?_
  refine a_locs (lv' := [(4, .int (nI 0)), (0, .ref 40), (1, .int x), (2, .int (nI 2)), (3, .ref (1000010 + 10))]) [0, 3, 4, 2, 1] rfl ?_
  have hX := shF_le (T := I 2) (i := 10) 3 0 e (0, 0, K, N, P) hel
  refine l_rdS (F := va_up F 10 (nI b)) hn hR hRt hlen hl6 (i := 10) (by decide) (by decide) (o9 := (rlX (I 2) len 10 3 e K N P).1) (p9 := (rlX (I 2) len 10 3 e K N P).2.1) (y9 := (rlX (I 2) len 10 3 e K N P).2.2) (fun h => hQ0 (Or.inl h)) (fun h s1 b1 => ?_) 3 0 e (0, 0, K, N, P) s b rfl hel (Nat.le_refl _) (Nat.le_refl _) rfl
  have hs8 := tkS_le (T := I 2) (len := len) (p := (rlX (I 2) len 10 3 e K N P).2.1)
  refine a_aload_n 1 dReader_readLine_88 rfl rfl ?_
  refine a_callV (Q' := m_res none (rlM I F b len (rlX (I 2) len 10 3 e K N P)) J R) (as := []) (st := []) dReader_readLine_89 ml7_50 rfl (Nat.le_of_ble_eq_true rfl) ly_40 rfl rfl (by decide) (by omega) (Nat.le_of_ble_eq_true rfl) rfl (Nat.le_refl _) (Nat.le_refl _) (by have h := c_nextToken (S := S) (d := d + 4) (n := n) (J := J) (R := R) (I := m_row (m_row (m_row I 57 (rlX (I 2) len 10 3 e K N P).2.2.2.2.1) 58 (rlX (I 2) len 10 3 e K N P).2.2.2.2.2.1) 59 (rlX (I 2) len 10 3 e K N P).2.2.2.2.2.2) (F := fK (va_up F 10 (nI b)) s1 b1 (rlX (I 2) len 10 3 e K N P).2.1 (rlX (I 2) len 10 3 e K N P).2.2.1 (rlX (I 2) len 10 3 e K N P).2.2.2.1) (len := len) (p := (rlX (I 2) len 10 3 e K N P).2.1) hn hR hRt hlen hl6 hX.2 rfl; rw [rM_c] at h; rw [show (m_row (m_row (m_row I 57 (rlX (I 2) len 10 3 e K N P).2.2.2.2.1) 58 (rlX (I 2) len 10 3 e K N P).2.2.2.2.2.1) 59 (rlX (I 2) len 10 3 e K N P).2.2.2.2.2.2) 2 = I 2 from rfl, fK_tk] at h; rw [rM_c] at h; exact h) (m_go ?_)
  show AW _ _ _ _ _ _ _ _ [] _ _ _ _
  refine a_aload_n 1 dReader_readLine_92 rfl rfl ?_
  refine a_geti dReader_readLine_93 fl7_53 rfl ly_40 (by omega) ?_
  rw [show (rlM I F b len (rlX (I 2) len 10 3 e K N P)) 40 7 = (nI (tkS (I 2) len (rlX (I 2) len 10 3 e K N P).2.1)) from rfl]
  refine a_iconstN (a := 3) dReader_readLine_96 (by decide) ?_
  refine a_icmp_eqN (tgt := 102) dReader_readLine_97 (by decide) (by omega) (by omega) (fun c97 => ?_) (fun c97 => ?_)
  · exact hx h (by omega)
  · refine a_iconstN (a := 0) dReader_readLine_100 (by decide) ?_
    exact a_zret dReader_readLine_101 rfl (by rfl) (hQ0 (Or.inr (by omega)))
theorem r_line3 {S : Nat × (Nat → Int32)} {d n : Nat} {I : mI} {J : mJ} {R : mR} (hn : 122 ≤ n) (hR : m_fin R) (hRt : R 40 5 = some 2) {F K N P : Nat → Int32} {len : Nat} (hlen : F 6 = nI len) (hl6 : len ≤ 600) {s b e : Nat} (h7 : F 7 = nI s) (h8 : F 8 = nI b) (h9 : F 9 = nI e) (hs : s ≤ 4) (hbe : b ≤ e) (hel : e ≤ len) {x : Int32} (hln : laC (I 2) s b e x = nI 3) {Q : Option Value → mI → mJ → mR → Prop} (hQ0 : ((rlX (I 2) len 11 3 e K N P).1 = false ∨ ¬ tkS (I 2) len (rlX (I 2) len 11 3 e K N P).2.1 = 3) → Q (some (.int 0)) (rlM I F b len (rlX (I 2) len 11 3 e K N P)) J R) (hx : (rlX (I 2) len 11 3 e K N P).1 = true → tkS (I 2) len (rlX (I 2) len 11 3 e K N P).2.1 = 3 → AW S (d + 7) YReader_readLine n n Q 102 [(4, .int (nI 3)), (0, .ref 40), (1, .int x), (2, .int (nI 3)), (3, .ref (1000010 + 11))] [] (rlM I F b len (rlX (I 2) len 11 3 e K N P)) J R n) : AW S (d + 7) YReader_readLine n n Q 0 [(0, .ref 40), (1, .int x)] [] (m_row (m_row (m_row (m_row I 40 F) 57 K) 58 N) 59 P) J R n := by
  refine a_aload_n 0 dReader_readLine_0 rfl rfl ?_
  refine a_iload_n 1 dReader_readLine_1 rfl rfl ?_
  refine a_callV (Q' := m_res (some (.int (nI 3))) (m_row (m_row (m_row (m_row I 40 F) 57 K) 58 N) 59 P) J R) (as := [.int x]) (st := []) dReader_readLine_2 ml7_114 rfl (Nat.le_of_ble_eq_true rfl) ly_40 rfl rfl (by decide) (by omega) (Nat.le_of_ble_eq_true rfl) rfl (Nat.le_refl _) (Nat.le_refl _) (by have h := c_lineAtHand (S := S) (d := d) (n := n) (J := J) (R := R) (I := m_row (m_row (m_row I 57 K) 58 N) 59 P) (F := F) hn hR hRt h7 h8 h9 hs hbe (by omega) (x := x); rw [rM_c] at h; rw [show (m_row (m_row (m_row I 57 K) 58 N) 59 P) 2 = I 2 from rfl, hln] at h; exact h) (m_go ?_)
  show AW _ _ _ _ _ _ _ _ [.int (nI 3)] _ _ _ _
  refine a_istore_n (lv' := [(2, .int (nI 3)), (0, .ref 40), (1, .int x)]) dReader_readLine_5 rfl (by decide) rfl ?_
  refine a_iload_n 0 dReader_readLine_6 rfl rfl ?_
  refine a_iconst (v := -1) dReader_readLine_7 (by decide) ?_
  refine a_icmp_ne (tgt := 13) dReader_readLine_8 (by decide) (fun _ => ?_) (fun c => False.elim (absurd c (by decide)))
  refine a_aload_n 1 dReader_readLine_13 rfl rfl ?_
  refine a_aload_n 1 dReader_readLine_14 rfl rfl ?_
  refine a_geti dReader_readLine_15 fl7_63 rfl ly_40 (by omega) ?_
  rw [show (m_row (m_row (m_row (m_row I 40 F) 57 K) 58 N) 59 P) 40 8 = (nI b) from h8]
  refine a_puti dReader_readLine_18 fl7_118 rfl ly_40 (by omega) ?_
  rw [show m_up (m_row (m_row (m_row (m_row I 40 F) 57 K) 58 N) 59 P) 40 10 (nI b) = (m_row (m_row (m_row (m_row I 40 (va_up F 10 (nI b))) 57 K) 58 N) 59 P) from (by rw [m_up_comm (by decide), m_up_comm (by decide), m_up_comm (by decide), m_up_r])]
  refine a_aload_n 1 dReader_readLine_21 rfl rfl ?_
  refine a_iconstN (a := 0) dReader_readLine_22 (by decide) ?_
  refine a_puti dReader_readLine_23 fl7_121 rfl ly_40 (by omega) ?_
  rw [show m_up (m_row (m_row (m_row (m_row I 40 (va_up F 10 (nI b))) 57 K) 58 N) 59 P) 40 12 (nI 0) = (m_row (m_row (m_row (m_row I 40 (va_up (va_up F 10 (nI b)) 12 (nI 0))) 57 K) 58 N) 59 P) from (by rw [m_up_comm (by decide), m_up_comm (by decide), m_up_comm (by decide), m_up_r])]
  refine a_aload_n 1 dReader_readLine_26 rfl rfl ?_
  refine a_iconstN (a := 0) dReader_readLine_27 (by decide) ?_
  refine a_puti dReader_readLine_28 fl7_124 rfl ly_40 (by omega) ?_
  rw [show m_up (m_row (m_row (m_row (m_row I 40 (va_up (va_up F 10 (nI b)) 12 (nI 0))) 57 K) 58 N) 59 P) 40 15 (nI 0) = (m_row (m_row (m_row (m_row I 40 (va_up (va_up (va_up F 10 (nI b)) 12 (nI 0)) 15 (nI 0))) 57 K) 58 N) 59 P) from (by rw [m_up_comm (by decide), m_up_comm (by decide), m_up_comm (by decide), m_up_r])]
  refine a_iload_n 0 dReader_readLine_31 rfl rfl ?_
  refine a_callS (Q' := m_res (some (.ref (1000010 + 11))) (m_row (m_row (m_row (m_row I 40 (va_up (va_up (va_up F 10 (nI b)) 12 (nI 0)) 15 (nI 0))) 57 K) 58 N) 59 P) J R) (as := [.int (nI 3)]) (st := []) dReader_readLine_32 ml7_127 rfl (Nat.le_of_ble_eq_true rfl) (Nat.le_of_ble_eq_true rfl) rfl (Nat.le_refl _) (Nat.le_refl _) c_shape3 (m_go ?_)
  show AW _ _ _ _ _ _ _ _ [.ref (1000010 + 11)] _ _ _ _
  refine a_astore_n (lv' := [(3, .ref (1000010 + 11)), (2, .int (nI 3)), (0, .ref 40), (1, .int x)]) dReader_readLine_35 rfl (by decide) rfl ?_
  refine a_iconstN (a := 0) dReader_readLine_36 (by decide) ?_
  refine a_istore (lv' := [(4, .int (nI 0)), (3, .ref (1000010 + 11)), (2, .int (nI 3)), (0, .ref 40), (1, .int x)]) dReader_readLine_37 (by decide) rfl ?_
  refine a_mem (show _ = rM I (fK (va_up F 10 (nI b)) s b e 0 0) K N P by rw [fK_self (G := va_up F 10 (nI b)) h7 h8 h9]) ?_
  refine a_locs (lv' := [(4, .int (nI 0)), (0, .ref 40), (1, .int x), (2, .int (nI 3)), (3, .ref (1000010 + 11))]) [0, 3, 4, 2, 1] rfl ?_
  have hX := shF_le (T := I 2) (i := 11) 3 0 e (0, 0, K, N, P) hel
  refine l_rdS (F := va_up F 10 (nI b)) hn hR hRt hlen hl6 (i := 11) (by decide) (by decide) (o9 := (rlX (I 2) len 11 3 e K N P).1) (p9 := (rlX (I 2) len 11 3 e K N P).2.1) (y9 := (rlX (I 2) len 11 3 e K N P).2.2) (fun h => hQ0 (Or.inl h)) (fun h s1 b1 => ?_) 3 0 e (0, 0, K, N, P) s b rfl hel (Nat.le_refl _) (Nat.le_refl _) rfl
  have hs8 := tkS_le (T := I 2) (len := len) (p := (rlX (I 2) len 11 3 e K N P).2.1)
  refine a_aload_n 1 dReader_readLine_88 rfl rfl ?_
  refine a_callV (Q' := m_res none (rlM I F b len (rlX (I 2) len 11 3 e K N P)) J R) (as := []) (st := []) dReader_readLine_89 ml7_50 rfl (Nat.le_of_ble_eq_true rfl) ly_40 rfl rfl (by decide) (by omega) (Nat.le_of_ble_eq_true rfl) rfl (Nat.le_refl _) (Nat.le_refl _) (by have h := c_nextToken (S := S) (d := d + 4) (n := n) (J := J) (R := R) (I := m_row (m_row (m_row I 57 (rlX (I 2) len 11 3 e K N P).2.2.2.2.1) 58 (rlX (I 2) len 11 3 e K N P).2.2.2.2.2.1) 59 (rlX (I 2) len 11 3 e K N P).2.2.2.2.2.2) (F := fK (va_up F 10 (nI b)) s1 b1 (rlX (I 2) len 11 3 e K N P).2.1 (rlX (I 2) len 11 3 e K N P).2.2.1 (rlX (I 2) len 11 3 e K N P).2.2.2.1) (len := len) (p := (rlX (I 2) len 11 3 e K N P).2.1) hn hR hRt hlen hl6 hX.2 rfl; rw [rM_c] at h; rw [show (m_row (m_row (m_row I 57 (rlX (I 2) len 11 3 e K N P).2.2.2.2.1) 58 (rlX (I 2) len 11 3 e K N P).2.2.2.2.2.1) 59 (rlX (I 2) len 11 3 e K N P).2.2.2.2.2.2) 2 = I 2 from rfl, fK_tk] at h; rw [rM_c] at h; exact h) (m_go ?_)
  show AW _ _ _ _ _ _ _ _ [] _ _ _ _
  refine a_aload_n 1 dReader_readLine_92 rfl rfl ?_
  refine a_geti dReader_readLine_93 fl7_53 rfl ly_40 (by omega) ?_
  rw [show (rlM I F b len (rlX (I 2) len 11 3 e K N P)) 40 7 = (nI (tkS (I 2) len (rlX (I 2) len 11 3 e K N P).2.1)) from rfl]
  refine a_iconstN (a := 3) dReader_readLine_96 (by decide) ?_
  refine a_icmp_eqN (tgt := 102) dReader_readLine_97 (by decide) (by omega) (by omega) (fun c97 => ?_) (fun c97 => ?_)
  · exact hx h (by omega)
  · refine a_iconstN (a := 0) dReader_readLine_100 (by decide) ?_
    exact a_zret dReader_readLine_101 rfl (by rfl) (hQ0 (Or.inr (by omega)))
theorem r_line4 {S : Nat × (Nat → Int32)} {d n : Nat} {I : mI} {J : mJ} {R : mR} (hn : 122 ≤ n) (hR : m_fin R) (hRt : R 40 5 = some 2) {F K N P : Nat → Int32} {len : Nat} (hlen : F 6 = nI len) (hl6 : len ≤ 600) {s b e : Nat} (h7 : F 7 = nI s) (h8 : F 8 = nI b) (h9 : F 9 = nI e) (hs : s ≤ 4) (hbe : b ≤ e) (hel : e ≤ len) {x : Int32} (hln : laC (I 2) s b e x = nI 4) {Q : Option Value → mI → mJ → mR → Prop} (hQ0 : ((rlX (I 2) len 12 3 e K N P).1 = false ∨ ¬ tkS (I 2) len (rlX (I 2) len 12 3 e K N P).2.1 = 3) → Q (some (.int 0)) (rlM I F b len (rlX (I 2) len 12 3 e K N P)) J R) (hx : (rlX (I 2) len 12 3 e K N P).1 = true → tkS (I 2) len (rlX (I 2) len 12 3 e K N P).2.1 = 3 → AW S (d + 7) YReader_readLine n n Q 102 [(4, .int (nI 3)), (0, .ref 40), (1, .int x), (2, .int (nI 4)), (3, .ref (1000010 + 12))] [] (rlM I F b len (rlX (I 2) len 12 3 e K N P)) J R n) : AW S (d + 7) YReader_readLine n n Q 0 [(0, .ref 40), (1, .int x)] [] (m_row (m_row (m_row (m_row I 40 F) 57 K) 58 N) 59 P) J R n := by
  refine a_aload_n 0 dReader_readLine_0 rfl rfl ?_
  refine a_iload_n 1 dReader_readLine_1 rfl rfl ?_
  refine a_callV (Q' := m_res (some (.int (nI 4))) (m_row (m_row (m_row (m_row I 40 F) 57 K) 58 N) 59 P) J R) (as := [.int x]) (st := []) dReader_readLine_2 ml7_114 rfl (Nat.le_of_ble_eq_true rfl) ly_40 rfl rfl (by decide) (by omega) (Nat.le_of_ble_eq_true rfl) rfl (Nat.le_refl _) (Nat.le_refl _) (by have h := c_lineAtHand (S := S) (d := d) (n := n) (J := J) (R := R) (I := m_row (m_row (m_row I 57 K) 58 N) 59 P) (F := F) hn hR hRt h7 h8 h9 hs hbe (by omega) (x := x); rw [rM_c] at h; rw [show (m_row (m_row (m_row I 57 K) 58 N) 59 P) 2 = I 2 from rfl, hln] at h; exact h) (m_go ?_)
  show AW _ _ _ _ _ _ _ _ [.int (nI 4)] _ _ _ _
  refine a_istore_n (lv' := [(2, .int (nI 4)), (0, .ref 40), (1, .int x)]) dReader_readLine_5 rfl (by decide) rfl ?_
  refine a_iload_n 0 dReader_readLine_6 rfl rfl ?_
  refine a_iconst (v := -1) dReader_readLine_7 (by decide) ?_
  refine a_icmp_ne (tgt := 13) dReader_readLine_8 (by decide) (fun _ => ?_) (fun c => False.elim (absurd c (by decide)))
  refine a_aload_n 1 dReader_readLine_13 rfl rfl ?_
  refine a_aload_n 1 dReader_readLine_14 rfl rfl ?_
  refine a_geti dReader_readLine_15 fl7_63 rfl ly_40 (by omega) ?_
  rw [show (m_row (m_row (m_row (m_row I 40 F) 57 K) 58 N) 59 P) 40 8 = (nI b) from h8]
  refine a_puti dReader_readLine_18 fl7_118 rfl ly_40 (by omega) ?_
  rw [show m_up (m_row (m_row (m_row (m_row I 40 F) 57 K) 58 N) 59 P) 40 10 (nI b) = (m_row (m_row (m_row (m_row I 40 (va_up F 10 (nI b))) 57 K) 58 N) 59 P) from (by rw [m_up_comm (by decide), m_up_comm (by decide), m_up_comm (by decide), m_up_r])]
  refine a_aload_n 1 dReader_readLine_21 rfl rfl ?_
  refine a_iconstN (a := 0) dReader_readLine_22 (by decide) ?_
  refine a_puti dReader_readLine_23 fl7_121 rfl ly_40 (by omega) ?_
  rw [show m_up (m_row (m_row (m_row (m_row I 40 (va_up F 10 (nI b))) 57 K) 58 N) 59 P) 40 12 (nI 0) = (m_row (m_row (m_row (m_row I 40 (va_up (va_up F 10 (nI b)) 12 (nI 0))) 57 K) 58 N) 59 P) from (by rw [m_up_comm (by decide), m_up_comm (by decide), m_up_comm (by decide), m_up_r])]
  refine a_aload_n 1 dReader_readLine_26 rfl rfl ?_
  refine a_iconstN (a := 0) dReader_readLine_27 (by decide) ?_
  refine a_puti dReader_readLine_28 fl7_124 rfl ly_40 (by omega) ?_
  rw [show m_up (m_row (m_row (m_row (m_row I 40 (va_up (va_up F 10 (nI b)) 12 (nI 0))) 57 K) 58 N) 59 P) 40 15 (nI 0) = (m_row (m_row (m_row (m_row I 40 (va_up (va_up (va_up F 10 (nI b)) 12 (nI 0)) 15 (nI 0))) 57 K) 58 N) 59 P) from (by rw [m_up_comm (by decide), m_up_comm (by decide), m_up_comm (by decide), m_up_r])]
  refine a_iload_n 0 dReader_readLine_31 rfl rfl ?_
  refine a_callS (Q' := m_res (some (.ref (1000010 + 12))) (m_row (m_row (m_row (m_row I 40 (va_up (va_up (va_up F 10 (nI b)) 12 (nI 0)) 15 (nI 0))) 57 K) 58 N) 59 P) J R) (as := [.int (nI 4)]) (st := []) dReader_readLine_32 ml7_127 rfl (Nat.le_of_ble_eq_true rfl) (Nat.le_of_ble_eq_true rfl) rfl (Nat.le_refl _) (Nat.le_refl _) c_shape4 (m_go ?_)
  show AW _ _ _ _ _ _ _ _ [.ref (1000010 + 12)] _ _ _ _
  refine a_astore_n (lv' := [(3, .ref (1000010 + 12)), (2, .int (nI 4)), (0, .ref 40), (1, .int x)]) dReader_readLine_35 rfl (by decide) rfl ?_
  refine a_iconstN (a := 0) dReader_readLine_36 (by decide) ?_
  refine a_istore (lv' := [(4, .int (nI 0)), (3, .ref (1000010 + 12)), (2, .int (nI 4)), (0, .ref 40), (1, .int x)]) dReader_readLine_37 (by decide) rfl ?_
  refine a_mem (show _ = rM I (fK (va_up F 10 (nI b)) s b e 0 0) K N P by rw [fK_self (G := va_up F 10 (nI b)) h7 h8 h9]) ?_
  refine a_locs (lv' := [(4, .int (nI 0)), (0, .ref 40), (1, .int x), (2, .int (nI 4)), (3, .ref (1000010 + 12))]) [0, 3, 4, 2, 1] rfl ?_
  have hX := shF_le (T := I 2) (i := 12) 3 0 e (0, 0, K, N, P) hel
  refine l_rdS (F := va_up F 10 (nI b)) hn hR hRt hlen hl6 (i := 12) (by decide) (by decide) (o9 := (rlX (I 2) len 12 3 e K N P).1) (p9 := (rlX (I 2) len 12 3 e K N P).2.1) (y9 := (rlX (I 2) len 12 3 e K N P).2.2) (fun h => hQ0 (Or.inl h)) (fun h s1 b1 => ?_) 3 0 e (0, 0, K, N, P) s b rfl hel (Nat.le_refl _) (Nat.le_refl _) rfl
  have hs8 := tkS_le (T := I 2) (len := len) (p := (rlX (I 2) len 12 3 e K N P).2.1)
  refine a_aload_n 1 dReader_readLine_88 rfl rfl ?_
  refine a_callV (Q' := m_res none (rlM I F b len (rlX (I 2) len 12 3 e K N P)) J R) (as := []) (st := []) dReader_readLine_89 ml7_50 rfl (Nat.le_of_ble_eq_true rfl) ly_40 rfl rfl (by decide) (by omega) (Nat.le_of_ble_eq_true rfl) rfl (Nat.le_refl _) (Nat.le_refl _) (by have h := c_nextToken (S := S) (d := d + 4) (n := n) (J := J) (R := R) (I := m_row (m_row (m_row I 57 (rlX (I 2) len 12 3 e K N P).2.2.2.2.1) 58 (rlX (I 2) len 12 3 e K N P).2.2.2.2.2.1) 59 (rlX (I 2) len 12 3 e K N P).2.2.2.2.2.2) (F := fK (va_up F 10 (nI b)) s1 b1 (rlX (I 2) len 12 3 e K N P).2.1 (rlX (I 2) len 12 3 e K N P).2.2.1 (rlX (I 2) len 12 3 e K N P).2.2.2.1) (len := len) (p := (rlX (I 2) len 12 3 e K N P).2.1) hn hR hRt hlen hl6 hX.2 rfl; rw [rM_c] at h; rw [show (m_row (m_row (m_row I 57 (rlX (I 2) len 12 3 e K N P).2.2.2.2.1) 58 (rlX (I 2) len 12 3 e K N P).2.2.2.2.2.1) 59 (rlX (I 2) len 12 3 e K N P).2.2.2.2.2.2) 2 = I 2 from rfl, fK_tk] at h; rw [rM_c] at h; exact h) (m_go ?_)
  show AW _ _ _ _ _ _ _ _ [] _ _ _ _
  refine a_aload_n 1 dReader_readLine_92 rfl rfl ?_
  refine a_geti dReader_readLine_93 fl7_53 rfl ly_40 (by omega) ?_
  rw [show (rlM I F b len (rlX (I 2) len 12 3 e K N P)) 40 7 = (nI (tkS (I 2) len (rlX (I 2) len 12 3 e K N P).2.1)) from rfl]
  refine a_iconstN (a := 3) dReader_readLine_96 (by decide) ?_
  refine a_icmp_eqN (tgt := 102) dReader_readLine_97 (by decide) (by omega) (by omega) (fun c97 => ?_) (fun c97 => ?_)
  · exact hx h (by omega)
  · refine a_iconstN (a := 0) dReader_readLine_100 (by decide) ?_
    exact a_zret dReader_readLine_101 rfl (by rfl) (hQ0 (Or.inr (by omega)))
theorem r_line5 {S : Nat × (Nat → Int32)} {d n : Nat} {I : mI} {J : mJ} {R : mR} (hn : 122 ≤ n) (hR : m_fin R) (hRt : R 40 5 = some 2) {F K N P : Nat → Int32} {len : Nat} (hlen : F 6 = nI len) (hl6 : len ≤ 600) {s b e : Nat} (h7 : F 7 = nI s) (h8 : F 8 = nI b) (h9 : F 9 = nI e) (hs : s ≤ 4) (hbe : b ≤ e) (hel : e ≤ len) {x : Int32} (hln : laC (I 2) s b e x = nI 5) {Q : Option Value → mI → mJ → mR → Prop} (hQ0 : ((rlX (I 2) len 9 1 e K N P).1 = false ∨ ¬ tkS (I 2) len (rlX (I 2) len 9 1 e K N P).2.1 = 3) → Q (some (.int 0)) (rlM I F b len (rlX (I 2) len 9 1 e K N P)) J R) (hx : (rlX (I 2) len 9 1 e K N P).1 = true → tkS (I 2) len (rlX (I 2) len 9 1 e K N P).2.1 = 3 → AW S (d + 7) YReader_readLine n n Q 102 [(4, .int (nI 1)), (0, .ref 40), (1, .int x), (2, .int (nI 5)), (3, .ref (1000010 + 9))] [] (rlM I F b len (rlX (I 2) len 9 1 e K N P)) J R n) : AW S (d + 7) YReader_readLine n n Q 0 [(0, .ref 40), (1, .int x)] [] (m_row (m_row (m_row (m_row I 40 F) 57 K) 58 N) 59 P) J R n := by
  refine a_aload_n 0 dReader_readLine_0 rfl rfl ?_
  refine a_iload_n 1 dReader_readLine_1 rfl rfl ?_
  refine a_callV (Q' := m_res (some (.int (nI 5))) (m_row (m_row (m_row (m_row I 40 F) 57 K) 58 N) 59 P) J R) (as := [.int x]) (st := []) dReader_readLine_2 ml7_114 rfl (Nat.le_of_ble_eq_true rfl) ly_40 rfl rfl (by decide) (by omega) (Nat.le_of_ble_eq_true rfl) rfl (Nat.le_refl _) (Nat.le_refl _) (by have h := c_lineAtHand (S := S) (d := d) (n := n) (J := J) (R := R) (I := m_row (m_row (m_row I 57 K) 58 N) 59 P) (F := F) hn hR hRt h7 h8 h9 hs hbe (by omega) (x := x); rw [rM_c] at h; rw [show (m_row (m_row (m_row I 57 K) 58 N) 59 P) 2 = I 2 from rfl, hln] at h; exact h) (m_go ?_)
  show AW _ _ _ _ _ _ _ _ [.int (nI 5)] _ _ _ _
  refine a_istore_n (lv' := [(2, .int (nI 5)), (0, .ref 40), (1, .int x)]) dReader_readLine_5 rfl (by decide) rfl ?_
  refine a_iload_n 0 dReader_readLine_6 rfl rfl ?_
  refine a_iconst (v := -1) dReader_readLine_7 (by decide) ?_
  refine a_icmp_ne (tgt := 13) dReader_readLine_8 (by decide) (fun _ => ?_) (fun c => False.elim (absurd c (by decide)))
  refine a_aload_n 1 dReader_readLine_13 rfl rfl ?_
  refine a_aload_n 1 dReader_readLine_14 rfl rfl ?_
  refine a_geti dReader_readLine_15 fl7_63 rfl ly_40 (by omega) ?_
  rw [show (m_row (m_row (m_row (m_row I 40 F) 57 K) 58 N) 59 P) 40 8 = (nI b) from h8]
  refine a_puti dReader_readLine_18 fl7_118 rfl ly_40 (by omega) ?_
  rw [show m_up (m_row (m_row (m_row (m_row I 40 F) 57 K) 58 N) 59 P) 40 10 (nI b) = (m_row (m_row (m_row (m_row I 40 (va_up F 10 (nI b))) 57 K) 58 N) 59 P) from (by rw [m_up_comm (by decide), m_up_comm (by decide), m_up_comm (by decide), m_up_r])]
  refine a_aload_n 1 dReader_readLine_21 rfl rfl ?_
  refine a_iconstN (a := 0) dReader_readLine_22 (by decide) ?_
  refine a_puti dReader_readLine_23 fl7_121 rfl ly_40 (by omega) ?_
  rw [show m_up (m_row (m_row (m_row (m_row I 40 (va_up F 10 (nI b))) 57 K) 58 N) 59 P) 40 12 (nI 0) = (m_row (m_row (m_row (m_row I 40 (va_up (va_up F 10 (nI b)) 12 (nI 0))) 57 K) 58 N) 59 P) from (by rw [m_up_comm (by decide), m_up_comm (by decide), m_up_comm (by decide), m_up_r])]
  refine a_aload_n 1 dReader_readLine_26 rfl rfl ?_
  refine a_iconstN (a := 0) dReader_readLine_27 (by decide) ?_
  refine a_puti dReader_readLine_28 fl7_124 rfl ly_40 (by omega) ?_
  rw [show m_up (m_row (m_row (m_row (m_row I 40 (va_up (va_up F 10 (nI b)) 12 (nI 0))) 57 K) 58 N) 59 P) 40 15 (nI 0) = (m_row (m_row (m_row (m_row I 40 (va_up (va_up (va_up F 10 (nI b)) 12 (nI 0)) 15 (nI 0))) 57 K) 58 N) 59 P) from (by rw [m_up_comm (by decide), m_up_comm (by decide), m_up_comm (by decide), m_up_r])]
  refine a_iload_n 0 dReader_readLine_31 rfl rfl ?_
  refine a_callS (Q' := m_res (some (.ref (1000010 + 9))) (m_row (m_row (m_row (m_row I 40 (va_up (va_up (va_up F 10 (nI b)) 12 (nI 0)) 15 (nI 0))) 57 K) 58 N) 59 P) J R) (as := [.int (nI 5)]) (st := []) dReader_readLine_32 ml7_127 rfl (Nat.le_of_ble_eq_true rfl) (Nat.le_of_ble_eq_true rfl) rfl (Nat.le_refl _) (Nat.le_refl _) c_shape5 (m_go ?_)
  show AW _ _ _ _ _ _ _ _ [.ref (1000010 + 9)] _ _ _ _
  refine a_astore_n (lv' := [(3, .ref (1000010 + 9)), (2, .int (nI 5)), (0, .ref 40), (1, .int x)]) dReader_readLine_35 rfl (by decide) rfl ?_
  refine a_iconstN (a := 0) dReader_readLine_36 (by decide) ?_
  refine a_istore (lv' := [(4, .int (nI 0)), (3, .ref (1000010 + 9)), (2, .int (nI 5)), (0, .ref 40), (1, .int x)]) dReader_readLine_37 (by decide) rfl ?_
  refine a_mem (show _ = rM I (fK (va_up F 10 (nI b)) s b e 0 0) K N P by rw [fK_self (G := va_up F 10 (nI b)) h7 h8 h9]) ?_
  refine a_locs (lv' := [(4, .int (nI 0)), (0, .ref 40), (1, .int x), (2, .int (nI 5)), (3, .ref (1000010 + 9))]) [0, 3, 4, 2, 1] rfl ?_
  have hX := shF_le (T := I 2) (i := 9) 1 0 e (0, 0, K, N, P) hel
  refine l_rdS (F := va_up F 10 (nI b)) hn hR hRt hlen hl6 (i := 9) (by decide) (by decide) (o9 := (rlX (I 2) len 9 1 e K N P).1) (p9 := (rlX (I 2) len 9 1 e K N P).2.1) (y9 := (rlX (I 2) len 9 1 e K N P).2.2) (fun h => hQ0 (Or.inl h)) (fun h s1 b1 => ?_) 1 0 e (0, 0, K, N, P) s b rfl hel (Nat.le_refl _) (Nat.le_refl _) rfl
  have hs8 := tkS_le (T := I 2) (len := len) (p := (rlX (I 2) len 9 1 e K N P).2.1)
  refine a_aload_n 1 dReader_readLine_88 rfl rfl ?_
  refine a_callV (Q' := m_res none (rlM I F b len (rlX (I 2) len 9 1 e K N P)) J R) (as := []) (st := []) dReader_readLine_89 ml7_50 rfl (Nat.le_of_ble_eq_true rfl) ly_40 rfl rfl (by decide) (by omega) (Nat.le_of_ble_eq_true rfl) rfl (Nat.le_refl _) (Nat.le_refl _) (by have h := c_nextToken (S := S) (d := d + 4) (n := n) (J := J) (R := R) (I := m_row (m_row (m_row I 57 (rlX (I 2) len 9 1 e K N P).2.2.2.2.1) 58 (rlX (I 2) len 9 1 e K N P).2.2.2.2.2.1) 59 (rlX (I 2) len 9 1 e K N P).2.2.2.2.2.2) (F := fK (va_up F 10 (nI b)) s1 b1 (rlX (I 2) len 9 1 e K N P).2.1 (rlX (I 2) len 9 1 e K N P).2.2.1 (rlX (I 2) len 9 1 e K N P).2.2.2.1) (len := len) (p := (rlX (I 2) len 9 1 e K N P).2.1) hn hR hRt hlen hl6 hX.2 rfl; rw [rM_c] at h; rw [show (m_row (m_row (m_row I 57 (rlX (I 2) len 9 1 e K N P).2.2.2.2.1) 58 (rlX (I 2) len 9 1 e K N P).2.2.2.2.2.1) 59 (rlX (I 2) len 9 1 e K N P).2.2.2.2.2.2) 2 = I 2 from rfl, fK_tk] at h; rw [rM_c] at h; exact h) (m_go ?_)
  show AW _ _ _ _ _ _ _ _ [] _ _ _ _
  refine a_aload_n 1 dReader_readLine_92 rfl rfl ?_
  refine a_geti dReader_readLine_93 fl7_53 rfl ly_40 (by omega) ?_
  rw [show (rlM I F b len (rlX (I 2) len 9 1 e K N P)) 40 7 = (nI (tkS (I 2) len (rlX (I 2) len 9 1 e K N P).2.1)) from rfl]
  refine a_iconstN (a := 3) dReader_readLine_96 (by decide) ?_
  refine a_icmp_eqN (tgt := 102) dReader_readLine_97 (by decide) (by omega) (by omega) (fun c97 => ?_) (fun c97 => ?_)
  · exact hx h (by omega)
  · refine a_iconstN (a := 0) dReader_readLine_100 (by decide) ?_
    exact a_zret dReader_readLine_101 rfl (by rfl) (hQ0 (Or.inr (by omega)))
theorem r_line6 {S : Nat × (Nat → Int32)} {d n : Nat} {I : mI} {J : mJ} {R : mR} (hn : 122 ≤ n) (hR : m_fin R) (hRt : R 40 5 = some 2) {F K N P : Nat → Int32} {len : Nat} (hlen : F 6 = nI len) (hl6 : len ≤ 600) {s b e : Nat} (h7 : F 7 = nI s) (h8 : F 8 = nI b) (h9 : F 9 = nI e) (hs : s ≤ 4) (hbe : b ≤ e) (hel : e ≤ len) {x : Int32} (hln : laC (I 2) s b e x = nI 6) {Q : Option Value → mI → mJ → mR → Prop} (hQ0 : ((rlX (I 2) len 14 2 e K N P).1 = false ∨ ¬ tkS (I 2) len (rlX (I 2) len 14 2 e K N P).2.1 = 3) → Q (some (.int 0)) (rlM I F b len (rlX (I 2) len 14 2 e K N P)) J R) (hx : (rlX (I 2) len 14 2 e K N P).1 = true → tkS (I 2) len (rlX (I 2) len 14 2 e K N P).2.1 = 3 → AW S (d + 7) YReader_readLine n n Q 102 [(4, .int (nI 2)), (0, .ref 40), (1, .int x), (2, .int (nI 6)), (3, .ref (1000010 + 14))] [] (rlM I F b len (rlX (I 2) len 14 2 e K N P)) J R n) : AW S (d + 7) YReader_readLine n n Q 0 [(0, .ref 40), (1, .int x)] [] (m_row (m_row (m_row (m_row I 40 F) 57 K) 58 N) 59 P) J R n := by
  refine a_aload_n 0 dReader_readLine_0 rfl rfl ?_
  refine a_iload_n 1 dReader_readLine_1 rfl rfl ?_
  refine a_callV (Q' := m_res (some (.int (nI 6))) (m_row (m_row (m_row (m_row I 40 F) 57 K) 58 N) 59 P) J R) (as := [.int x]) (st := []) dReader_readLine_2 ml7_114 rfl (Nat.le_of_ble_eq_true rfl) ly_40 rfl rfl (by decide) (by omega) (Nat.le_of_ble_eq_true rfl) rfl (Nat.le_refl _) (Nat.le_refl _) (by have h := c_lineAtHand (S := S) (d := d) (n := n) (J := J) (R := R) (I := m_row (m_row (m_row I 57 K) 58 N) 59 P) (F := F) hn hR hRt h7 h8 h9 hs hbe (by omega) (x := x); rw [rM_c] at h; rw [show (m_row (m_row (m_row I 57 K) 58 N) 59 P) 2 = I 2 from rfl, hln] at h; exact h) (m_go ?_)
  show AW _ _ _ _ _ _ _ _ [.int (nI 6)] _ _ _ _
  refine a_istore_n (lv' := [(2, .int (nI 6)), (0, .ref 40), (1, .int x)]) dReader_readLine_5 rfl (by decide) rfl ?_
  refine a_iload_n 0 dReader_readLine_6 rfl rfl ?_
  refine a_iconst (v := -1) dReader_readLine_7 (by decide) ?_
  refine a_icmp_ne (tgt := 13) dReader_readLine_8 (by decide) (fun _ => ?_) (fun c => False.elim (absurd c (by decide)))
  refine a_aload_n 1 dReader_readLine_13 rfl rfl ?_
  refine a_aload_n 1 dReader_readLine_14 rfl rfl ?_
  refine a_geti dReader_readLine_15 fl7_63 rfl ly_40 (by omega) ?_
  rw [show (m_row (m_row (m_row (m_row I 40 F) 57 K) 58 N) 59 P) 40 8 = (nI b) from h8]
  refine a_puti dReader_readLine_18 fl7_118 rfl ly_40 (by omega) ?_
  rw [show m_up (m_row (m_row (m_row (m_row I 40 F) 57 K) 58 N) 59 P) 40 10 (nI b) = (m_row (m_row (m_row (m_row I 40 (va_up F 10 (nI b))) 57 K) 58 N) 59 P) from (by rw [m_up_comm (by decide), m_up_comm (by decide), m_up_comm (by decide), m_up_r])]
  refine a_aload_n 1 dReader_readLine_21 rfl rfl ?_
  refine a_iconstN (a := 0) dReader_readLine_22 (by decide) ?_
  refine a_puti dReader_readLine_23 fl7_121 rfl ly_40 (by omega) ?_
  rw [show m_up (m_row (m_row (m_row (m_row I 40 (va_up F 10 (nI b))) 57 K) 58 N) 59 P) 40 12 (nI 0) = (m_row (m_row (m_row (m_row I 40 (va_up (va_up F 10 (nI b)) 12 (nI 0))) 57 K) 58 N) 59 P) from (by rw [m_up_comm (by decide), m_up_comm (by decide), m_up_comm (by decide), m_up_r])]
  refine a_aload_n 1 dReader_readLine_26 rfl rfl ?_
  refine a_iconstN (a := 0) dReader_readLine_27 (by decide) ?_
  refine a_puti dReader_readLine_28 fl7_124 rfl ly_40 (by omega) ?_
  rw [show m_up (m_row (m_row (m_row (m_row I 40 (va_up (va_up F 10 (nI b)) 12 (nI 0))) 57 K) 58 N) 59 P) 40 15 (nI 0) = (m_row (m_row (m_row (m_row I 40 (va_up (va_up (va_up F 10 (nI b)) 12 (nI 0)) 15 (nI 0))) 57 K) 58 N) 59 P) from (by rw [m_up_comm (by decide), m_up_comm (by decide), m_up_comm (by decide), m_up_r])]
  refine a_iload_n 0 dReader_readLine_31 rfl rfl ?_
  refine a_callS (Q' := m_res (some (.ref (1000010 + 14))) (m_row (m_row (m_row (m_row I 40 (va_up (va_up (va_up F 10 (nI b)) 12 (nI 0)) 15 (nI 0))) 57 K) 58 N) 59 P) J R) (as := [.int (nI 6)]) (st := []) dReader_readLine_32 ml7_127 rfl (Nat.le_of_ble_eq_true rfl) (Nat.le_of_ble_eq_true rfl) rfl (Nat.le_refl _) (Nat.le_refl _) c_shape6 (m_go ?_)
  show AW _ _ _ _ _ _ _ _ [.ref (1000010 + 14)] _ _ _ _
  refine a_astore_n (lv' := [(3, .ref (1000010 + 14)), (2, .int (nI 6)), (0, .ref 40), (1, .int x)]) dReader_readLine_35 rfl (by decide) rfl ?_
  refine a_iconstN (a := 0) dReader_readLine_36 (by decide) ?_
  refine a_istore (lv' := [(4, .int (nI 0)), (3, .ref (1000010 + 14)), (2, .int (nI 6)), (0, .ref 40), (1, .int x)]) dReader_readLine_37 (by decide) rfl ?_
  refine a_mem (show _ = rM I (fK (va_up F 10 (nI b)) s b e 0 0) K N P by rw [fK_self (G := va_up F 10 (nI b)) h7 h8 h9]) ?_
  refine a_locs (lv' := [(4, .int (nI 0)), (0, .ref 40), (1, .int x), (2, .int (nI 6)), (3, .ref (1000010 + 14))]) [0, 3, 4, 2, 1] rfl ?_
  have hX := shF_le (T := I 2) (i := 14) 2 0 e (0, 0, K, N, P) hel
  refine l_rdS (F := va_up F 10 (nI b)) hn hR hRt hlen hl6 (i := 14) (by decide) (by decide) (o9 := (rlX (I 2) len 14 2 e K N P).1) (p9 := (rlX (I 2) len 14 2 e K N P).2.1) (y9 := (rlX (I 2) len 14 2 e K N P).2.2) (fun h => hQ0 (Or.inl h)) (fun h s1 b1 => ?_) 2 0 e (0, 0, K, N, P) s b rfl hel (Nat.le_refl _) (Nat.le_refl _) rfl
  have hs8 := tkS_le (T := I 2) (len := len) (p := (rlX (I 2) len 14 2 e K N P).2.1)
  refine a_aload_n 1 dReader_readLine_88 rfl rfl ?_
  refine a_callV (Q' := m_res none (rlM I F b len (rlX (I 2) len 14 2 e K N P)) J R) (as := []) (st := []) dReader_readLine_89 ml7_50 rfl (Nat.le_of_ble_eq_true rfl) ly_40 rfl rfl (by decide) (by omega) (Nat.le_of_ble_eq_true rfl) rfl (Nat.le_refl _) (Nat.le_refl _) (by have h := c_nextToken (S := S) (d := d + 4) (n := n) (J := J) (R := R) (I := m_row (m_row (m_row I 57 (rlX (I 2) len 14 2 e K N P).2.2.2.2.1) 58 (rlX (I 2) len 14 2 e K N P).2.2.2.2.2.1) 59 (rlX (I 2) len 14 2 e K N P).2.2.2.2.2.2) (F := fK (va_up F 10 (nI b)) s1 b1 (rlX (I 2) len 14 2 e K N P).2.1 (rlX (I 2) len 14 2 e K N P).2.2.1 (rlX (I 2) len 14 2 e K N P).2.2.2.1) (len := len) (p := (rlX (I 2) len 14 2 e K N P).2.1) hn hR hRt hlen hl6 hX.2 rfl; rw [rM_c] at h; rw [show (m_row (m_row (m_row I 57 (rlX (I 2) len 14 2 e K N P).2.2.2.2.1) 58 (rlX (I 2) len 14 2 e K N P).2.2.2.2.2.1) 59 (rlX (I 2) len 14 2 e K N P).2.2.2.2.2.2) 2 = I 2 from rfl, fK_tk] at h; rw [rM_c] at h; exact h) (m_go ?_)
  show AW _ _ _ _ _ _ _ _ [] _ _ _ _
  refine a_aload_n 1 dReader_readLine_92 rfl rfl ?_
  refine a_geti dReader_readLine_93 fl7_53 rfl ly_40 (by omega) ?_
  rw [show (rlM I F b len (rlX (I 2) len 14 2 e K N P)) 40 7 = (nI (tkS (I 2) len (rlX (I 2) len 14 2 e K N P).2.1)) from rfl]
  refine a_iconstN (a := 3) dReader_readLine_96 (by decide) ?_
  refine a_icmp_eqN (tgt := 102) dReader_readLine_97 (by decide) (by omega) (by omega) (fun c97 => ?_) (fun c97 => ?_)
  · exact hx h (by omega)
  · refine a_iconstN (a := 0) dReader_readLine_100 (by decide) ?_
    exact a_zret dReader_readLine_101 rfl (by rfl) (hQ0 (Or.inr (by omega)))
theorem r_line7 {S : Nat × (Nat → Int32)} {d n : Nat} {I : mI} {J : mJ} {R : mR} (hn : 122 ≤ n) (hR : m_fin R) (hRt : R 40 5 = some 2) {F K N P : Nat → Int32} {len : Nat} (hlen : F 6 = nI len) (hl6 : len ≤ 600) {s b e : Nat} (h7 : F 7 = nI s) (h8 : F 8 = nI b) (h9 : F 9 = nI e) (hs : s ≤ 4) (hbe : b ≤ e) (hel : e ≤ len) {x : Int32} (hln : laC (I 2) s b e x = nI 7) {Q : Option Value → mI → mJ → mR → Prop} (hQ0 : ((rlX (I 2) len 9 1 e K N P).1 = false ∨ ¬ tkS (I 2) len (rlX (I 2) len 9 1 e K N P).2.1 = 3) → Q (some (.int 0)) (rlM I F b len (rlX (I 2) len 9 1 e K N P)) J R) (hx : (rlX (I 2) len 9 1 e K N P).1 = true → tkS (I 2) len (rlX (I 2) len 9 1 e K N P).2.1 = 3 → AW S (d + 7) YReader_readLine n n Q 102 [(4, .int (nI 1)), (0, .ref 40), (1, .int x), (2, .int (nI 7)), (3, .ref (1000010 + 9))] [] (rlM I F b len (rlX (I 2) len 9 1 e K N P)) J R n) : AW S (d + 7) YReader_readLine n n Q 0 [(0, .ref 40), (1, .int x)] [] (m_row (m_row (m_row (m_row I 40 F) 57 K) 58 N) 59 P) J R n := by
  refine a_aload_n 0 dReader_readLine_0 rfl rfl ?_
  refine a_iload_n 1 dReader_readLine_1 rfl rfl ?_
  refine a_callV (Q' := m_res (some (.int (nI 7))) (m_row (m_row (m_row (m_row I 40 F) 57 K) 58 N) 59 P) J R) (as := [.int x]) (st := []) dReader_readLine_2 ml7_114 rfl (Nat.le_of_ble_eq_true rfl) ly_40 rfl rfl (by decide) (by omega) (Nat.le_of_ble_eq_true rfl) rfl (Nat.le_refl _) (Nat.le_refl _) (by have h := c_lineAtHand (S := S) (d := d) (n := n) (J := J) (R := R) (I := m_row (m_row (m_row I 57 K) 58 N) 59 P) (F := F) hn hR hRt h7 h8 h9 hs hbe (by omega) (x := x); rw [rM_c] at h; rw [show (m_row (m_row (m_row I 57 K) 58 N) 59 P) 2 = I 2 from rfl, hln] at h; exact h) (m_go ?_)
  show AW _ _ _ _ _ _ _ _ [.int (nI 7)] _ _ _ _
  refine a_istore_n (lv' := [(2, .int (nI 7)), (0, .ref 40), (1, .int x)]) dReader_readLine_5 rfl (by decide) rfl ?_
  refine a_iload_n 0 dReader_readLine_6 rfl rfl ?_
  refine a_iconst (v := -1) dReader_readLine_7 (by decide) ?_
  refine a_icmp_ne (tgt := 13) dReader_readLine_8 (by decide) (fun _ => ?_) (fun c => False.elim (absurd c (by decide)))
  refine a_aload_n 1 dReader_readLine_13 rfl rfl ?_
  refine a_aload_n 1 dReader_readLine_14 rfl rfl ?_
  refine a_geti dReader_readLine_15 fl7_63 rfl ly_40 (by omega) ?_
  rw [show (m_row (m_row (m_row (m_row I 40 F) 57 K) 58 N) 59 P) 40 8 = (nI b) from h8]
  refine a_puti dReader_readLine_18 fl7_118 rfl ly_40 (by omega) ?_
  rw [show m_up (m_row (m_row (m_row (m_row I 40 F) 57 K) 58 N) 59 P) 40 10 (nI b) = (m_row (m_row (m_row (m_row I 40 (va_up F 10 (nI b))) 57 K) 58 N) 59 P) from (by rw [m_up_comm (by decide), m_up_comm (by decide), m_up_comm (by decide), m_up_r])]
  refine a_aload_n 1 dReader_readLine_21 rfl rfl ?_
  refine a_iconstN (a := 0) dReader_readLine_22 (by decide) ?_
  refine a_puti dReader_readLine_23 fl7_121 rfl ly_40 (by omega) ?_
  rw [show m_up (m_row (m_row (m_row (m_row I 40 (va_up F 10 (nI b))) 57 K) 58 N) 59 P) 40 12 (nI 0) = (m_row (m_row (m_row (m_row I 40 (va_up (va_up F 10 (nI b)) 12 (nI 0))) 57 K) 58 N) 59 P) from (by rw [m_up_comm (by decide), m_up_comm (by decide), m_up_comm (by decide), m_up_r])]
  refine a_aload_n 1 dReader_readLine_26 rfl rfl ?_
  refine a_iconstN (a := 0) dReader_readLine_27 (by decide) ?_
  refine a_puti dReader_readLine_28 fl7_124 rfl ly_40 (by omega) ?_
  rw [show m_up (m_row (m_row (m_row (m_row I 40 (va_up (va_up F 10 (nI b)) 12 (nI 0))) 57 K) 58 N) 59 P) 40 15 (nI 0) = (m_row (m_row (m_row (m_row I 40 (va_up (va_up (va_up F 10 (nI b)) 12 (nI 0)) 15 (nI 0))) 57 K) 58 N) 59 P) from (by rw [m_up_comm (by decide), m_up_comm (by decide), m_up_comm (by decide), m_up_r])]
  refine a_iload_n 0 dReader_readLine_31 rfl rfl ?_
  refine a_callS (Q' := m_res (some (.ref (1000010 + 9))) (m_row (m_row (m_row (m_row I 40 (va_up (va_up (va_up F 10 (nI b)) 12 (nI 0)) 15 (nI 0))) 57 K) 58 N) 59 P) J R) (as := [.int (nI 7)]) (st := []) dReader_readLine_32 ml7_127 rfl (Nat.le_of_ble_eq_true rfl) (Nat.le_of_ble_eq_true rfl) rfl (Nat.le_refl _) (Nat.le_refl _) c_shape7 (m_go ?_)
  show AW _ _ _ _ _ _ _ _ [.ref (1000010 + 9)] _ _ _ _
  refine a_astore_n (lv' := [(3, .ref (1000010 + 9)), (2, .int (nI 7)), (0, .ref 40), (1, .int x)]) dReader_readLine_35 rfl (by decide) rfl ?_
  refine a_iconstN (a := 0) dReader_readLine_36 (by decide) ?_
  refine a_istore (lv' := [(4, .int (nI 0)), (3, .ref (1000010 + 9)), (2, .int (nI 7)), (0, .ref 40), (1, .int x)]) dReader_readLine_37 (by decide) rfl ?_
  refine a_mem (show _ = rM I (fK (va_up F 10 (nI b)) s b e 0 0) K N P by rw [fK_self (G := va_up F 10 (nI b)) h7 h8 h9]) ?_
  refine a_locs (lv' := [(4, .int (nI 0)), (0, .ref 40), (1, .int x), (2, .int (nI 7)), (3, .ref (1000010 + 9))]) [0, 3, 4, 2, 1] rfl ?_
  have hX := shF_le (T := I 2) (i := 9) 1 0 e (0, 0, K, N, P) hel
  refine l_rdS (F := va_up F 10 (nI b)) hn hR hRt hlen hl6 (i := 9) (by decide) (by decide) (o9 := (rlX (I 2) len 9 1 e K N P).1) (p9 := (rlX (I 2) len 9 1 e K N P).2.1) (y9 := (rlX (I 2) len 9 1 e K N P).2.2) (fun h => hQ0 (Or.inl h)) (fun h s1 b1 => ?_) 1 0 e (0, 0, K, N, P) s b rfl hel (Nat.le_refl _) (Nat.le_refl _) rfl
  have hs8 := tkS_le (T := I 2) (len := len) (p := (rlX (I 2) len 9 1 e K N P).2.1)
  refine a_aload_n 1 dReader_readLine_88 rfl rfl ?_
  refine a_callV (Q' := m_res none (rlM I F b len (rlX (I 2) len 9 1 e K N P)) J R) (as := []) (st := []) dReader_readLine_89 ml7_50 rfl (Nat.le_of_ble_eq_true rfl) ly_40 rfl rfl (by decide) (by omega) (Nat.le_of_ble_eq_true rfl) rfl (Nat.le_refl _) (Nat.le_refl _) (by have h := c_nextToken (S := S) (d := d + 4) (n := n) (J := J) (R := R) (I := m_row (m_row (m_row I 57 (rlX (I 2) len 9 1 e K N P).2.2.2.2.1) 58 (rlX (I 2) len 9 1 e K N P).2.2.2.2.2.1) 59 (rlX (I 2) len 9 1 e K N P).2.2.2.2.2.2) (F := fK (va_up F 10 (nI b)) s1 b1 (rlX (I 2) len 9 1 e K N P).2.1 (rlX (I 2) len 9 1 e K N P).2.2.1 (rlX (I 2) len 9 1 e K N P).2.2.2.1) (len := len) (p := (rlX (I 2) len 9 1 e K N P).2.1) hn hR hRt hlen hl6 hX.2 rfl; rw [rM_c] at h; rw [show (m_row (m_row (m_row I 57 (rlX (I 2) len 9 1 e K N P).2.2.2.2.1) 58 (rlX (I 2) len 9 1 e K N P).2.2.2.2.2.1) 59 (rlX (I 2) len 9 1 e K N P).2.2.2.2.2.2) 2 = I 2 from rfl, fK_tk] at h; rw [rM_c] at h; exact h) (m_go ?_)
  show AW _ _ _ _ _ _ _ _ [] _ _ _ _
  refine a_aload_n 1 dReader_readLine_92 rfl rfl ?_
  refine a_geti dReader_readLine_93 fl7_53 rfl ly_40 (by omega) ?_
  rw [show (rlM I F b len (rlX (I 2) len 9 1 e K N P)) 40 7 = (nI (tkS (I 2) len (rlX (I 2) len 9 1 e K N P).2.1)) from rfl]
  refine a_iconstN (a := 3) dReader_readLine_96 (by decide) ?_
  refine a_icmp_eqN (tgt := 102) dReader_readLine_97 (by decide) (by omega) (by omega) (fun c97 => ?_) (fun c97 => ?_)
  · exact hx h (by omega)
  · refine a_iconstN (a := 0) dReader_readLine_100 (by decide) ?_
    exact a_zret dReader_readLine_101 rfl (by rfl) (hQ0 (Or.inr (by omega)))
theorem r_line8 {S : Nat × (Nat → Int32)} {d n : Nat} {I : mI} {J : mJ} {R : mR} (hn : 122 ≤ n) (hR : m_fin R) (hRt : R 40 5 = some 2) {F K N P : Nat → Int32} {len : Nat} (hlen : F 6 = nI len) (hl6 : len ≤ 600) {s b e : Nat} (h7 : F 7 = nI s) (h8 : F 8 = nI b) (h9 : F 9 = nI e) (hs : s ≤ 4) (hbe : b ≤ e) (hel : e ≤ len) {x : Int32} (hln : laC (I 2) s b e x = nI 8) {Q : Option Value → mI → mJ → mR → Prop} (hQ0 : ((rlX (I 2) len 13 0 e K N P).1 = false ∨ ¬ tkS (I 2) len (rlX (I 2) len 13 0 e K N P).2.1 = 3) → Q (some (.int 0)) (rlM I F b len (rlX (I 2) len 13 0 e K N P)) J R) (hx : (rlX (I 2) len 13 0 e K N P).1 = true → tkS (I 2) len (rlX (I 2) len 13 0 e K N P).2.1 = 3 → AW S (d + 7) YReader_readLine n n Q 102 [(4, .int (nI 0)), (0, .ref 40), (1, .int x), (2, .int (nI 8)), (3, .ref (1000010 + 13))] [] (rlM I F b len (rlX (I 2) len 13 0 e K N P)) J R n) : AW S (d + 7) YReader_readLine n n Q 0 [(0, .ref 40), (1, .int x)] [] (m_row (m_row (m_row (m_row I 40 F) 57 K) 58 N) 59 P) J R n := by
  refine a_aload_n 0 dReader_readLine_0 rfl rfl ?_
  refine a_iload_n 1 dReader_readLine_1 rfl rfl ?_
  refine a_callV (Q' := m_res (some (.int (nI 8))) (m_row (m_row (m_row (m_row I 40 F) 57 K) 58 N) 59 P) J R) (as := [.int x]) (st := []) dReader_readLine_2 ml7_114 rfl (Nat.le_of_ble_eq_true rfl) ly_40 rfl rfl (by decide) (by omega) (Nat.le_of_ble_eq_true rfl) rfl (Nat.le_refl _) (Nat.le_refl _) (by have h := c_lineAtHand (S := S) (d := d) (n := n) (J := J) (R := R) (I := m_row (m_row (m_row I 57 K) 58 N) 59 P) (F := F) hn hR hRt h7 h8 h9 hs hbe (by omega) (x := x); rw [rM_c] at h; rw [show (m_row (m_row (m_row I 57 K) 58 N) 59 P) 2 = I 2 from rfl, hln] at h; exact h) (m_go ?_)
  show AW _ _ _ _ _ _ _ _ [.int (nI 8)] _ _ _ _
  refine a_istore_n (lv' := [(2, .int (nI 8)), (0, .ref 40), (1, .int x)]) dReader_readLine_5 rfl (by decide) rfl ?_
  refine a_iload_n 0 dReader_readLine_6 rfl rfl ?_
  refine a_iconst (v := -1) dReader_readLine_7 (by decide) ?_
  refine a_icmp_ne (tgt := 13) dReader_readLine_8 (by decide) (fun _ => ?_) (fun c => False.elim (absurd c (by decide)))
  refine a_aload_n 1 dReader_readLine_13 rfl rfl ?_
  refine a_aload_n 1 dReader_readLine_14 rfl rfl ?_
  refine a_geti dReader_readLine_15 fl7_63 rfl ly_40 (by omega) ?_
  rw [show (m_row (m_row (m_row (m_row I 40 F) 57 K) 58 N) 59 P) 40 8 = (nI b) from h8]
  refine a_puti dReader_readLine_18 fl7_118 rfl ly_40 (by omega) ?_
  rw [show m_up (m_row (m_row (m_row (m_row I 40 F) 57 K) 58 N) 59 P) 40 10 (nI b) = (m_row (m_row (m_row (m_row I 40 (va_up F 10 (nI b))) 57 K) 58 N) 59 P) from (by rw [m_up_comm (by decide), m_up_comm (by decide), m_up_comm (by decide), m_up_r])]
  refine a_aload_n 1 dReader_readLine_21 rfl rfl ?_
  refine a_iconstN (a := 0) dReader_readLine_22 (by decide) ?_
  refine a_puti dReader_readLine_23 fl7_121 rfl ly_40 (by omega) ?_
  rw [show m_up (m_row (m_row (m_row (m_row I 40 (va_up F 10 (nI b))) 57 K) 58 N) 59 P) 40 12 (nI 0) = (m_row (m_row (m_row (m_row I 40 (va_up (va_up F 10 (nI b)) 12 (nI 0))) 57 K) 58 N) 59 P) from (by rw [m_up_comm (by decide), m_up_comm (by decide), m_up_comm (by decide), m_up_r])]
  refine a_aload_n 1 dReader_readLine_26 rfl rfl ?_
  refine a_iconstN (a := 0) dReader_readLine_27 (by decide) ?_
  refine a_puti dReader_readLine_28 fl7_124 rfl ly_40 (by omega) ?_
  rw [show m_up (m_row (m_row (m_row (m_row I 40 (va_up (va_up F 10 (nI b)) 12 (nI 0))) 57 K) 58 N) 59 P) 40 15 (nI 0) = (m_row (m_row (m_row (m_row I 40 (va_up (va_up (va_up F 10 (nI b)) 12 (nI 0)) 15 (nI 0))) 57 K) 58 N) 59 P) from (by rw [m_up_comm (by decide), m_up_comm (by decide), m_up_comm (by decide), m_up_r])]
  refine a_iload_n 0 dReader_readLine_31 rfl rfl ?_
  refine a_callS (Q' := m_res (some (.ref (1000010 + 13))) (m_row (m_row (m_row (m_row I 40 (va_up (va_up (va_up F 10 (nI b)) 12 (nI 0)) 15 (nI 0))) 57 K) 58 N) 59 P) J R) (as := [.int (nI 8)]) (st := []) dReader_readLine_32 ml7_127 rfl (Nat.le_of_ble_eq_true rfl) (Nat.le_of_ble_eq_true rfl) rfl (Nat.le_refl _) (Nat.le_refl _) c_shape8 (m_go ?_)
  show AW _ _ _ _ _ _ _ _ [.ref (1000010 + 13)] _ _ _ _
  refine a_astore_n (lv' := [(3, .ref (1000010 + 13)), (2, .int (nI 8)), (0, .ref 40), (1, .int x)]) dReader_readLine_35 rfl (by decide) rfl ?_
  refine a_iconstN (a := 0) dReader_readLine_36 (by decide) ?_
  refine a_istore (lv' := [(4, .int (nI 0)), (3, .ref (1000010 + 13)), (2, .int (nI 8)), (0, .ref 40), (1, .int x)]) dReader_readLine_37 (by decide) rfl ?_
  refine a_mem (show _ = rM I (fK (va_up F 10 (nI b)) s b e 0 0) K N P by rw [fK_self (G := va_up F 10 (nI b)) h7 h8 h9]) ?_
  refine a_locs (lv' := [(4, .int (nI 0)), (0, .ref 40), (1, .int x), (2, .int (nI 8)), (3, .ref (1000010 + 13))]) [0, 3, 4, 2, 1] rfl ?_
  have hX := shF_le (T := I 2) (i := 13) 0 0 e (0, 0, K, N, P) hel
  refine l_rdS (F := va_up F 10 (nI b)) hn hR hRt hlen hl6 (i := 13) (by decide) (by decide) (o9 := (rlX (I 2) len 13 0 e K N P).1) (p9 := (rlX (I 2) len 13 0 e K N P).2.1) (y9 := (rlX (I 2) len 13 0 e K N P).2.2) (fun h => hQ0 (Or.inl h)) (fun h s1 b1 => ?_) 0 0 e (0, 0, K, N, P) s b rfl hel (Nat.le_refl _) (Nat.le_refl _) rfl
  have hs8 := tkS_le (T := I 2) (len := len) (p := (rlX (I 2) len 13 0 e K N P).2.1)
  refine a_aload_n 1 dReader_readLine_88 rfl rfl ?_
  refine a_callV (Q' := m_res none (rlM I F b len (rlX (I 2) len 13 0 e K N P)) J R) (as := []) (st := []) dReader_readLine_89 ml7_50 rfl (Nat.le_of_ble_eq_true rfl) ly_40 rfl rfl (by decide) (by omega) (Nat.le_of_ble_eq_true rfl) rfl (Nat.le_refl _) (Nat.le_refl _) (by have h := c_nextToken (S := S) (d := d + 4) (n := n) (J := J) (R := R) (I := m_row (m_row (m_row I 57 (rlX (I 2) len 13 0 e K N P).2.2.2.2.1) 58 (rlX (I 2) len 13 0 e K N P).2.2.2.2.2.1) 59 (rlX (I 2) len 13 0 e K N P).2.2.2.2.2.2) (F := fK (va_up F 10 (nI b)) s1 b1 (rlX (I 2) len 13 0 e K N P).2.1 (rlX (I 2) len 13 0 e K N P).2.2.1 (rlX (I 2) len 13 0 e K N P).2.2.2.1) (len := len) (p := (rlX (I 2) len 13 0 e K N P).2.1) hn hR hRt hlen hl6 hX.2 rfl; rw [rM_c] at h; rw [show (m_row (m_row (m_row I 57 (rlX (I 2) len 13 0 e K N P).2.2.2.2.1) 58 (rlX (I 2) len 13 0 e K N P).2.2.2.2.2.1) 59 (rlX (I 2) len 13 0 e K N P).2.2.2.2.2.2) 2 = I 2 from rfl, fK_tk] at h; rw [rM_c] at h; exact h) (m_go ?_)
  show AW _ _ _ _ _ _ _ _ [] _ _ _ _
  refine a_aload_n 1 dReader_readLine_92 rfl rfl ?_
  refine a_geti dReader_readLine_93 fl7_53 rfl ly_40 (by omega) ?_
  rw [show (rlM I F b len (rlX (I 2) len 13 0 e K N P)) 40 7 = (nI (tkS (I 2) len (rlX (I 2) len 13 0 e K N P).2.1)) from rfl]
  refine a_iconstN (a := 3) dReader_readLine_96 (by decide) ?_
  refine a_icmp_eqN (tgt := 102) dReader_readLine_97 (by decide) (by omega) (by omega) (fun c97 => ?_) (fun c97 => ?_)
  · exact hx h (by omega)
  · refine a_iconstN (a := 0) dReader_readLine_100 (by decide) ?_
    exact a_zret dReader_readLine_101 rfl (by rfl) (hQ0 (Or.inr (by omega)))
theorem r_line9 {S : Nat × (Nat → Int32)} {d n : Nat} {I : mI} {J : mJ} {R : mR} (hn : 122 ≤ n) (hR : m_fin R) (hRt : R 40 5 = some 2) {F K N P : Nat → Int32} {len : Nat} (hlen : F 6 = nI len) (hl6 : len ≤ 600) {s b e : Nat} (h7 : F 7 = nI s) (h8 : F 8 = nI b) (h9 : F 9 = nI e) (hs : s ≤ 4) (hbe : b ≤ e) (hel : e ≤ len) {x : Int32} (hln : laC (I 2) s b e x = nI 9) {Q : Option Value → mI → mJ → mR → Prop} (hQ0 : ((rlX (I 2) len 14 2 e K N P).1 = false ∨ ¬ tkS (I 2) len (rlX (I 2) len 14 2 e K N P).2.1 = 3) → Q (some (.int 0)) (rlM I F b len (rlX (I 2) len 14 2 e K N P)) J R) (hx : (rlX (I 2) len 14 2 e K N P).1 = true → tkS (I 2) len (rlX (I 2) len 14 2 e K N P).2.1 = 3 → AW S (d + 7) YReader_readLine n n Q 102 [(4, .int (nI 2)), (0, .ref 40), (1, .int x), (2, .int (nI 9)), (3, .ref (1000010 + 14))] [] (rlM I F b len (rlX (I 2) len 14 2 e K N P)) J R n) : AW S (d + 7) YReader_readLine n n Q 0 [(0, .ref 40), (1, .int x)] [] (m_row (m_row (m_row (m_row I 40 F) 57 K) 58 N) 59 P) J R n := by
  refine a_aload_n 0 dReader_readLine_0 rfl rfl ?_
  refine a_iload_n 1 dReader_readLine_1 rfl rfl ?_
  refine a_callV (Q' := m_res (some (.int (nI 9))) (m_row (m_row (m_row (m_row I 40 F) 57 K) 58 N) 59 P) J R) (as := [.int x]) (st := []) dReader_readLine_2 ml7_114 rfl (Nat.le_of_ble_eq_true rfl) ly_40 rfl rfl (by decide) (by omega) (Nat.le_of_ble_eq_true rfl) rfl (Nat.le_refl _) (Nat.le_refl _) (by have h := c_lineAtHand (S := S) (d := d) (n := n) (J := J) (R := R) (I := m_row (m_row (m_row I 57 K) 58 N) 59 P) (F := F) hn hR hRt h7 h8 h9 hs hbe (by omega) (x := x); rw [rM_c] at h; rw [show (m_row (m_row (m_row I 57 K) 58 N) 59 P) 2 = I 2 from rfl, hln] at h; exact h) (m_go ?_)
  show AW _ _ _ _ _ _ _ _ [.int (nI 9)] _ _ _ _
  refine a_istore_n (lv' := [(2, .int (nI 9)), (0, .ref 40), (1, .int x)]) dReader_readLine_5 rfl (by decide) rfl ?_
  refine a_iload_n 0 dReader_readLine_6 rfl rfl ?_
  refine a_iconst (v := -1) dReader_readLine_7 (by decide) ?_
  refine a_icmp_ne (tgt := 13) dReader_readLine_8 (by decide) (fun _ => ?_) (fun c => False.elim (absurd c (by decide)))
  refine a_aload_n 1 dReader_readLine_13 rfl rfl ?_
  refine a_aload_n 1 dReader_readLine_14 rfl rfl ?_
  refine a_geti dReader_readLine_15 fl7_63 rfl ly_40 (by omega) ?_
  rw [show (m_row (m_row (m_row (m_row I 40 F) 57 K) 58 N) 59 P) 40 8 = (nI b) from h8]
  refine a_puti dReader_readLine_18 fl7_118 rfl ly_40 (by omega) ?_
  rw [show m_up (m_row (m_row (m_row (m_row I 40 F) 57 K) 58 N) 59 P) 40 10 (nI b) = (m_row (m_row (m_row (m_row I 40 (va_up F 10 (nI b))) 57 K) 58 N) 59 P) from (by rw [m_up_comm (by decide), m_up_comm (by decide), m_up_comm (by decide), m_up_r])]
  refine a_aload_n 1 dReader_readLine_21 rfl rfl ?_
  refine a_iconstN (a := 0) dReader_readLine_22 (by decide) ?_
  refine a_puti dReader_readLine_23 fl7_121 rfl ly_40 (by omega) ?_
  rw [show m_up (m_row (m_row (m_row (m_row I 40 (va_up F 10 (nI b))) 57 K) 58 N) 59 P) 40 12 (nI 0) = (m_row (m_row (m_row (m_row I 40 (va_up (va_up F 10 (nI b)) 12 (nI 0))) 57 K) 58 N) 59 P) from (by rw [m_up_comm (by decide), m_up_comm (by decide), m_up_comm (by decide), m_up_r])]
  refine a_aload_n 1 dReader_readLine_26 rfl rfl ?_
  refine a_iconstN (a := 0) dReader_readLine_27 (by decide) ?_
  refine a_puti dReader_readLine_28 fl7_124 rfl ly_40 (by omega) ?_
  rw [show m_up (m_row (m_row (m_row (m_row I 40 (va_up (va_up F 10 (nI b)) 12 (nI 0))) 57 K) 58 N) 59 P) 40 15 (nI 0) = (m_row (m_row (m_row (m_row I 40 (va_up (va_up (va_up F 10 (nI b)) 12 (nI 0)) 15 (nI 0))) 57 K) 58 N) 59 P) from (by rw [m_up_comm (by decide), m_up_comm (by decide), m_up_comm (by decide), m_up_r])]
  refine a_iload_n 0 dReader_readLine_31 rfl rfl ?_
  refine a_callS (Q' := m_res (some (.ref (1000010 + 14))) (m_row (m_row (m_row (m_row I 40 (va_up (va_up (va_up F 10 (nI b)) 12 (nI 0)) 15 (nI 0))) 57 K) 58 N) 59 P) J R) (as := [.int (nI 9)]) (st := []) dReader_readLine_32 ml7_127 rfl (Nat.le_of_ble_eq_true rfl) (Nat.le_of_ble_eq_true rfl) rfl (Nat.le_refl _) (Nat.le_refl _) c_shape9 (m_go ?_)
  show AW _ _ _ _ _ _ _ _ [.ref (1000010 + 14)] _ _ _ _
  refine a_astore_n (lv' := [(3, .ref (1000010 + 14)), (2, .int (nI 9)), (0, .ref 40), (1, .int x)]) dReader_readLine_35 rfl (by decide) rfl ?_
  refine a_iconstN (a := 0) dReader_readLine_36 (by decide) ?_
  refine a_istore (lv' := [(4, .int (nI 0)), (3, .ref (1000010 + 14)), (2, .int (nI 9)), (0, .ref 40), (1, .int x)]) dReader_readLine_37 (by decide) rfl ?_
  refine a_mem (show _ = rM I (fK (va_up F 10 (nI b)) s b e 0 0) K N P by rw [fK_self (G := va_up F 10 (nI b)) h7 h8 h9]) ?_
  refine a_locs (lv' := [(4, .int (nI 0)), (0, .ref 40), (1, .int x), (2, .int (nI 9)), (3, .ref (1000010 + 14))]) [0, 3, 4, 2, 1] rfl ?_
  have hX := shF_le (T := I 2) (i := 14) 2 0 e (0, 0, K, N, P) hel
  refine l_rdS (F := va_up F 10 (nI b)) hn hR hRt hlen hl6 (i := 14) (by decide) (by decide) (o9 := (rlX (I 2) len 14 2 e K N P).1) (p9 := (rlX (I 2) len 14 2 e K N P).2.1) (y9 := (rlX (I 2) len 14 2 e K N P).2.2) (fun h => hQ0 (Or.inl h)) (fun h s1 b1 => ?_) 2 0 e (0, 0, K, N, P) s b rfl hel (Nat.le_refl _) (Nat.le_refl _) rfl
  have hs8 := tkS_le (T := I 2) (len := len) (p := (rlX (I 2) len 14 2 e K N P).2.1)
  refine a_aload_n 1 dReader_readLine_88 rfl rfl ?_
  refine a_callV (Q' := m_res none (rlM I F b len (rlX (I 2) len 14 2 e K N P)) J R) (as := []) (st := []) dReader_readLine_89 ml7_50 rfl (Nat.le_of_ble_eq_true rfl) ly_40 rfl rfl (by decide) (by omega) (Nat.le_of_ble_eq_true rfl) rfl (Nat.le_refl _) (Nat.le_refl _) (by have h := c_nextToken (S := S) (d := d + 4) (n := n) (J := J) (R := R) (I := m_row (m_row (m_row I 57 (rlX (I 2) len 14 2 e K N P).2.2.2.2.1) 58 (rlX (I 2) len 14 2 e K N P).2.2.2.2.2.1) 59 (rlX (I 2) len 14 2 e K N P).2.2.2.2.2.2) (F := fK (va_up F 10 (nI b)) s1 b1 (rlX (I 2) len 14 2 e K N P).2.1 (rlX (I 2) len 14 2 e K N P).2.2.1 (rlX (I 2) len 14 2 e K N P).2.2.2.1) (len := len) (p := (rlX (I 2) len 14 2 e K N P).2.1) hn hR hRt hlen hl6 hX.2 rfl; rw [rM_c] at h; rw [show (m_row (m_row (m_row I 57 (rlX (I 2) len 14 2 e K N P).2.2.2.2.1) 58 (rlX (I 2) len 14 2 e K N P).2.2.2.2.2.1) 59 (rlX (I 2) len 14 2 e K N P).2.2.2.2.2.2) 2 = I 2 from rfl, fK_tk] at h; rw [rM_c] at h; exact h) (m_go ?_)
  show AW _ _ _ _ _ _ _ _ [] _ _ _ _
  refine a_aload_n 1 dReader_readLine_92 rfl rfl ?_
  refine a_geti dReader_readLine_93 fl7_53 rfl ly_40 (by omega) ?_
  rw [show (rlM I F b len (rlX (I 2) len 14 2 e K N P)) 40 7 = (nI (tkS (I 2) len (rlX (I 2) len 14 2 e K N P).2.1)) from rfl]
  refine a_iconstN (a := 3) dReader_readLine_96 (by decide) ?_
  refine a_icmp_eqN (tgt := 102) dReader_readLine_97 (by decide) (by omega) (by omega) (fun c97 => ?_) (fun c97 => ?_)
  · exact hx h (by omega)
  · refine a_iconstN (a := 0) dReader_readLine_100 (by decide) ?_
    exact a_zret dReader_readLine_101 rfl (by rfl) (hQ0 (Or.inr (by omega)))
