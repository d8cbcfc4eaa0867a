def byC (v s : Int32) : Int32 := Int8.toInt32 (Int32.toInt8 (Int8.toInt32 (Int32.toInt8 ((v.toUInt32 >>> (Int32.toUInt32 s &&& Int32.toUInt32 31)).toInt32))))
def byR (v s : Int32) : Int32 := Int8.toInt32 (Int32.toInt8 (Int8.toInt32 (Int32.toInt8 (v >>> (s &&& 31)))))
/-- four bytes behind the first len -/
def t4 (f : Int32 → Int32 → Int32) (t : Nat → Int32) (len : Nat) (v : Int32) : Nat → Int32 := va_up (va_up (va_up (va_up t len (f v 24)) (len + 1) (f v 16)) (len + 1 + 1) (f v 8)) (len + 1 + 1 + 1) (f v 0)
/-- the class's tape and its length; the reference's -/
def tpC (I : mI) (t : Nat → Int32) (len : Nat) : mI := m_row (m_up I 1 1 (nI len)) 2 t
def tpR (I : mI) (t : Nat → Int32) (len : Nat) : mI := m_row (m_up I 97 0 (nI len)) 96 t
section Tp
variable {I : mI} {t : Nat → Int32} {len e l2 : Nat} {x : Int32}
theorem tpC_t : m_up (tpC I t len) 2 e x = tpC I (va_up t e x) len := by unfold tpC; rw [m_up_r]
theorem m_up_up {α : Type} {I : Nat → Nat → α} {a k : Nat} {x y : α} : m_up (m_up I a k x) a k y = m_up I a k y := by
  funext i
  by_cases h : i = a
  · subst h
    funext j
    by_cases hj : j = k
    · subst hj; simp [m_up, va_up]
    · simp [m_up, va_up, hj]
  · simp [m_up, h]
theorem tpC_l : m_up (tpC I t len) 1 1 (nI l2) = tpC I t l2 := by unfold tpC; rw [m_up_comm (by decide), m_up_up]
theorem tpR_t : m_up (tpR I t len) 96 e x = tpR I (va_up t e x) len := by unfold tpR; rw [m_up_r]
theorem tpR_l : m_up (tpR I t len) 97 0 (nI l2) = tpR I t l2 := by unfold tpR; rw [m_up_comm (by decide), m_up_up]
theorem tpC_2 : tpC I t len 2 = t := by unfold tpC; rw [m_row_eq]
theorem tpR_96 : tpR I t len 96 = t := by unfold tpR; rw [m_row_eq]
theorem tpC_self (h : I 1 1 = nI len) : tpC I (I 2) len = I := by
  unfold tpC
  have e : m_up I 1 1 (nI len) = I := by
    funext i
    by_cases hi : i = 1
    · subst hi
      funext j
      by_cases hj : j = 1
      · subst hj; rw [m_up_at, h]
      · rw [m_up_off hj]
    · rw [m_up_ne hi]
  rw [e, m_row_self]
theorem tpR_self (h : I 97 0 = nI len) : tpR I (I 96) len = I := by
  unfold tpR
  have e : m_up I 97 0 (nI len) = I := by
    funext i
    by_cases hi : i = 97
    · subst hi
      funext j
      by_cases hj : j = 0
      · subst hj; rw [m_up_at, h]
      · rw [m_up_off hj]
    · rw [m_up_ne hi]
  rw [e, m_row_self]
end Tp
theorem c_Told_addBytes {S : Nat × (Nat → Int32)} {d n : Nat} {I : mI} {J : mJ} {R : mR} (hn : 122 ≤ n) (hR : m_fin R) {t : Nat → Int32} {len : Nat} {v : Int32} (hlen : len + 4 ≤ 600) : RUN S d YTold_addBytes [.ref 1, .int v] (tpC I t len) J R n none (tpC I (t4 byC t len v) (len + 4)) J R n := by
  show AW S _ YTold_addBytes n n _ 0 [(0, .ref 1), (1, .int v)] [] (tpC I t len) J R n
  refine a_bipush (v := 24) dTold_addBytes_0 (by decide) ?_
  refine a_istore_n (lv' := [(2, .int 24), (0, .ref 1), (1, .int v)]) dTold_addBytes_2 rfl (by decide) rfl ?_
  refine a_iload_n 0 dTold_addBytes_3 rfl rfl ?_
  refine a_if_lt (tgt := 46) dTold_addBytes_4 (by decide) (fun c => False.elim (absurd c (by decide))) (fun _ => ?_)
  refine a_aload_n 1 dTold_addBytes_7 rfl rfl ?_
  refine a_geti dTold_addBytes_8 fl9_50 rfl ly_1 (by omega) ?_
  rw [show (tpC I t len) 1 1 = (nI len) from rfl]
  refine a_sipush (v := 600) dTold_addBytes_11 (by decide) ?_
  refine a_icmp_ge (tgt := 46) dTold_addBytes_14 (by decide) (fun c => False.elim (absurd ((nI_leI (a := 600) (by decide) (by omega)).mp c) (by omega))) (fun _ => ?_)
  refine a_aload_n 1 dTold_addBytes_17 rfl rfl ?_
  refine a_geta (r := 2) dTold_addBytes_18 fl9_9 rfl ly_1 (by omega) (rf_1_0 hR) ?_
  refine a_aload_n 1 dTold_addBytes_21 rfl rfl ?_
  refine a_geti dTold_addBytes_22 fl9_50 rfl ly_1 (by omega) ?_
  rw [show (tpC I t len) 1 1 = (nI len) from rfl]
  refine a_iload_n 2 dTold_addBytes_25 rfl rfl ?_
  refine a_iload_n 0 dTold_addBytes_26 rfl rfl ?_
  refine a_iushr dTold_addBytes_27 ?_
  refine a_i2b dTold_addBytes_28 ?_
  refine a_bastN (a := len) dTold_addBytes_29 ly_2 (by omega) (by omega) (by decide) ?_
  rw [tpC_t]
  refine a_aload_n 1 dTold_addBytes_30 rfl rfl ?_
  refine a_dup dTold_addBytes_31 rfl ?_
  refine a_geti dTold_addBytes_32 fl9_50 rfl ly_1 (by omega) ?_
  rw [show (tpC I (va_up t len (Int8.toInt32 (Int32.toInt8 (Int8.toInt32 (Int32.toInt8 ((v.toUInt32 >>> (Int32.toUInt32 24 &&& Int32.toUInt32 31)).toInt32)))))) len) 1 1 = (nI len) from rfl]
  refine a_iconst (v := 1) dTold_addBytes_35 (by decide) ?_
  refine a_iaddN (a := len) (b := 1) dTold_addBytes_36 ?_
  refine a_puti dTold_addBytes_37 fl9_50 rfl ly_1 (by omega) ?_
  rw [tpC_l]
  refine a_iinc (v := 16) (lv' := [(2, .int 16), (0, .ref 1), (1, .int v)]) 0 dTold_addBytes_40 rfl (by decide) (by decide) rfl ?_
  refine a_goto (tgt := 3) dTold_addBytes_43 (by decide) ?_
  refine a_iload_n 0 dTold_addBytes_3 rfl rfl ?_
  refine a_if_lt (tgt := 46) dTold_addBytes_4 (by decide) (fun c => False.elim (absurd c (by decide))) (fun _ => ?_)
  refine a_aload_n 1 dTold_addBytes_7 rfl rfl ?_
  refine a_geti dTold_addBytes_8 fl9_50 rfl ly_1 (by omega) ?_
  rw [show (tpC I (va_up t len (Int8.toInt32 (Int32.toInt8 (Int8.toInt32 (Int32.toInt8 ((v.toUInt32 >>> (Int32.toUInt32 24 &&& Int32.toUInt32 31)).toInt32)))))) (len + 1)) 1 1 = (nI (len + 1)) from rfl]
  refine a_sipush (v := 600) dTold_addBytes_11 (by decide) ?_
  refine a_icmp_ge (tgt := 46) dTold_addBytes_14 (by decide) (fun c => False.elim (absurd ((nI_leI (a := 600) (by decide) (by omega)).mp c) (by omega))) (fun _ => ?_)
  refine a_aload_n 1 dTold_addBytes_17 rfl rfl ?_
  refine a_geta (r := 2) dTold_addBytes_18 fl9_9 rfl ly_1 (by omega) (rf_1_0 hR) ?_
  refine a_aload_n 1 dTold_addBytes_21 rfl rfl ?_
  refine a_geti dTold_addBytes_22 fl9_50 rfl ly_1 (by omega) ?_
  rw [show (tpC I (va_up t len (Int8.toInt32 (Int32.toInt8 (Int8.toInt32 (Int32.toInt8 ((v.toUInt32 >>> (Int32.toUInt32 24 &&& Int32.toUInt32 31)).toInt32)))))) (len + 1)) 1 1 = (nI (len + 1)) from rfl]
  refine a_iload_n 2 dTold_addBytes_25 rfl rfl ?_
  refine a_iload_n 0 dTold_addBytes_26 rfl rfl ?_
  refine a_iushr dTold_addBytes_27 ?_
  refine a_i2b dTold_addBytes_28 ?_
  refine a_bastN (a := (len + 1)) dTold_addBytes_29 ly_2 (by omega) (by omega) (by decide) ?_
  rw [tpC_t]
  refine a_aload_n 1 dTold_addBytes_30 rfl rfl ?_
  refine a_dup dTold_addBytes_31 rfl ?_
  refine a_geti dTold_addBytes_32 fl9_50 rfl ly_1 (by omega) ?_
  rw [show (tpC I (va_up (va_up t len (Int8.toInt32 (Int32.toInt8 (Int8.toInt32 (Int32.toInt8 ((v.toUInt32 >>> (Int32.toUInt32 24 &&& Int32.toUInt32 31)).toInt32)))))) (len + 1) (Int8.toInt32 (Int32.toInt8 (Int8.toInt32 (Int32.toInt8 ((v.toUInt32 >>> (Int32.toUInt32 16 &&& Int32.toUInt32 31)).toInt32)))))) (len + 1)) 1 1 = (nI (len + 1)) from rfl]
  refine a_iconst (v := 1) dTold_addBytes_35 (by decide) ?_
  refine a_iaddN (a := (len + 1)) (b := 1) dTold_addBytes_36 ?_
  refine a_puti dTold_addBytes_37 fl9_50 rfl ly_1 (by omega) ?_
  rw [tpC_l]
  refine a_iinc (v := 8) (lv' := [(2, .int 8), (0, .ref 1), (1, .int v)]) 0 dTold_addBytes_40 rfl (by decide) (by decide) rfl ?_
  refine a_goto (tgt := 3) dTold_addBytes_43 (by decide) ?_
  refine a_iload_n 0 dTold_addBytes_3 rfl rfl ?_
  refine a_if_lt (tgt := 46) dTold_addBytes_4 (by decide) (fun c => False.elim (absurd c (by decide))) (fun _ => ?_)
  refine a_aload_n 1 dTold_addBytes_7 rfl rfl ?_
  refine a_geti dTold_addBytes_8 fl9_50 rfl ly_1 (by omega) ?_
  rw [show (tpC I (va_up (va_up t len (Int8.toInt32 (Int32.toInt8 (Int8.toInt32 (Int32.toInt8 ((v.toUInt32 >>> (Int32.toUInt32 24 &&& Int32.toUInt32 31)).toInt32)))))) (len + 1) (Int8.toInt32 (Int32.toInt8 (Int8.toInt32 (Int32.toInt8 ((v.toUInt32 >>> (Int32.toUInt32 16 &&& Int32.toUInt32 31)).toInt32)))))) ((len + 1) + 1)) 1 1 = (nI ((len + 1) + 1)) from rfl]
  refine a_sipush (v := 600) dTold_addBytes_11 (by decide) ?_
  refine a_icmp_ge (tgt := 46) dTold_addBytes_14 (by decide) (fun c => False.elim (absurd ((nI_leI (a := 600) (by decide) (by omega)).mp c) (by omega))) (fun _ => ?_)
  refine a_aload_n 1 dTold_addBytes_17 rfl rfl ?_
  refine a_geta (r := 2) dTold_addBytes_18 fl9_9 rfl ly_1 (by omega) (rf_1_0 hR) ?_
  refine a_aload_n 1 dTold_addBytes_21 rfl rfl ?_
  refine a_geti dTold_addBytes_22 fl9_50 rfl ly_1 (by omega) ?_
  rw [show (tpC I (va_up (va_up t len (Int8.toInt32 (Int32.toInt8 (Int8.toInt32 (Int32.toInt8 ((v.toUInt32 >>> (Int32.toUInt32 24 &&& Int32.toUInt32 31)).toInt32)))))) (len + 1) (Int8.toInt32 (Int32.toInt8 (Int8.toInt32 (Int32.toInt8 ((v.toUInt32 >>> (Int32.toUInt32 16 &&& Int32.toUInt32 31)).toInt32)))))) ((len + 1) + 1)) 1 1 = (nI ((len + 1) + 1)) from rfl]
  refine a_iload_n 2 dTold_addBytes_25 rfl rfl ?_
  refine a_iload_n 0 dTold_addBytes_26 rfl rfl ?_
  refine a_iushr dTold_addBytes_27 ?_
  refine a_i2b dTold_addBytes_28 ?_
  refine a_bastN (a := ((len + 1) + 1)) dTold_addBytes_29 ly_2 (by omega) (by omega) (by decide) ?_
  rw [tpC_t]
  refine a_aload_n 1 dTold_addBytes_30 rfl rfl ?_
  refine a_dup dTold_addBytes_31 rfl ?_
  refine a_geti dTold_addBytes_32 fl9_50 rfl ly_1 (by omega) ?_
  rw [show (tpC I (va_up (va_up (va_up t len (Int8.toInt32 (Int32.toInt8 (Int8.toInt32 (Int32.toInt8 ((v.toUInt32 >>> (Int32.toUInt32 24 &&& Int32.toUInt32 31)).toInt32)))))) (len + 1) (Int8.toInt32 (Int32.toInt8 (Int8.toInt32 (Int32.toInt8 ((v.toUInt32 >>> (Int32.toUInt32 16 &&& Int32.toUInt32 31)).toInt32)))))) ((len + 1) + 1) (Int8.toInt32 (Int32.toInt8 (Int8.toInt32 (Int32.toInt8 ((v.toUInt32 >>> (Int32.toUInt32 8 &&& Int32.toUInt32 31)).toInt32)))))) ((len + 1) + 1)) 1 1 = (nI ((len + 1) + 1)) from rfl]
  refine a_iconst (v := 1) dTold_addBytes_35 (by decide) ?_
  refine a_iaddN (a := ((len + 1) + 1)) (b := 1) dTold_addBytes_36 ?_
  refine a_puti dTold_addBytes_37 fl9_50 rfl ly_1 (by omega) ?_
  rw [tpC_l]
  refine a_iinc (v := 0) (lv' := [(2, .int 0), (0, .ref 1), (1, .int v)]) 0 dTold_addBytes_40 rfl (by decide) (by decide) rfl ?_
  refine a_goto (tgt := 3) dTold_addBytes_43 (by decide) ?_
  refine a_iload_n 0 dTold_addBytes_3 rfl rfl ?_
  refine a_if_lt (tgt := 46) dTold_addBytes_4 (by decide) (fun c => False.elim (absurd c (by decide))) (fun _ => ?_)
  refine a_aload_n 1 dTold_addBytes_7 rfl rfl ?_
  refine a_geti dTold_addBytes_8 fl9_50 rfl ly_1 (by omega) ?_
  rw [show (tpC I (va_up (va_up (va_up t len (Int8.toInt32 (Int32.toInt8 (Int8.toInt32 (Int32.toInt8 ((v.toUInt32 >>> (Int32.toUInt32 24 &&& Int32.toUInt32 31)).toInt32)))))) (len + 1) (Int8.toInt32 (Int32.toInt8 (Int8.toInt32 (Int32.toInt8 ((v.toUInt32 >>> (Int32.toUInt32 16 &&& Int32.toUInt32 31)).toInt32)))))) ((len + 1) + 1) (Int8.toInt32 (Int32.toInt8 (Int8.toInt32 (Int32.toInt8 ((v.toUInt32 >>> (Int32.toUInt32 8 &&& Int32.toUInt32 31)).toInt32)))))) (((len + 1) + 1) + 1)) 1 1 = (nI (((len + 1) + 1) + 1)) from rfl]
  refine a_sipush (v := 600) dTold_addBytes_11 (by decide) ?_
  refine a_icmp_ge (tgt := 46) dTold_addBytes_14 (by decide) (fun c => False.elim (absurd ((nI_leI (a := 600) (by decide) (by omega)).mp c) (by omega))) (fun _ => ?_)
  refine a_aload_n 1 dTold_addBytes_17 rfl rfl ?_
  refine a_geta (r := 2) dTold_addBytes_18 fl9_9 rfl ly_1 (by omega) (rf_1_0 hR) ?_
  refine a_aload_n 1 dTold_addBytes_21 rfl rfl ?_
  refine a_geti dTold_addBytes_22 fl9_50 rfl ly_1 (by omega) ?_
  rw [show (tpC I (va_up (va_up (va_up t len (Int8.toInt32 (Int32.toInt8 (Int8.toInt32 (Int32.toInt8 ((v.toUInt32 >>> (Int32.toUInt32 24 &&& Int32.toUInt32 31)).toInt32)))))) (len + 1) (Int8.toInt32 (Int32.toInt8 (Int8.toInt32 (Int32.toInt8 ((v.toUInt32 >>> (Int32.toUInt32 16 &&& Int32.toUInt32 31)).toInt32)))))) ((len + 1) + 1) (Int8.toInt32 (Int32.toInt8 (Int8.toInt32 (Int32.toInt8 ((v.toUInt32 >>> (Int32.toUInt32 8 &&& Int32.toUInt32 31)).toInt32)))))) (((len + 1) + 1) + 1)) 1 1 = (nI (((len + 1) + 1) + 1)) from rfl]
  refine a_iload_n 2 dTold_addBytes_25 rfl rfl ?_
  refine a_iload_n 0 dTold_addBytes_26 rfl rfl ?_
  refine a_iushr dTold_addBytes_27 ?_
  refine a_i2b dTold_addBytes_28 ?_
  refine a_bastN (a := (((len + 1) + 1) + 1)) dTold_addBytes_29 ly_2 (by omega) (by omega) (by decide) ?_
  rw [tpC_t]
  refine a_aload_n 1 dTold_addBytes_30 rfl rfl ?_
  refine a_dup dTold_addBytes_31 rfl ?_
  refine a_geti dTold_addBytes_32 fl9_50 rfl ly_1 (by omega) ?_
  rw [show (tpC I (va_up (va_up (va_up (va_up t len (Int8.toInt32 (Int32.toInt8 (Int8.toInt32 (Int32.toInt8 ((v.toUInt32 >>> (Int32.toUInt32 24 &&& Int32.toUInt32 31)).toInt32)))))) (len + 1) (Int8.toInt32 (Int32.toInt8 (Int8.toInt32 (Int32.toInt8 ((v.toUInt32 >>> (Int32.toUInt32 16 &&& Int32.toUInt32 31)).toInt32)))))) ((len + 1) + 1) (Int8.toInt32 (Int32.toInt8 (Int8.toInt32 (Int32.toInt8 ((v.toUInt32 >>> (Int32.toUInt32 8 &&& Int32.toUInt32 31)).toInt32)))))) (((len + 1) + 1) + 1) (Int8.toInt32 (Int32.toInt8 (Int8.toInt32 (Int32.toInt8 ((v.toUInt32 >>> (Int32.toUInt32 0 &&& Int32.toUInt32 31)).toInt32)))))) (((len + 1) + 1) + 1)) 1 1 = (nI (((len + 1) + 1) + 1)) from rfl]
  refine a_iconst (v := 1) dTold_addBytes_35 (by decide) ?_
  refine a_iaddN (a := (((len + 1) + 1) + 1)) (b := 1) dTold_addBytes_36 ?_
  refine a_puti dTold_addBytes_37 fl9_50 rfl ly_1 (by omega) ?_
  rw [tpC_l]
  refine a_iinc (v := (-8)) (lv' := [(2, .int (-8)), (0, .ref 1), (1, .int v)]) 0 dTold_addBytes_40 rfl (by decide) (by decide) rfl ?_
  refine a_goto (tgt := 3) dTold_addBytes_43 (by decide) ?_
  refine a_iload_n 0 dTold_addBytes_3 rfl rfl ?_
  refine a_if_lt (tgt := 46) dTold_addBytes_4 (by decide) (fun _ => ?_) (fun c => False.elim (c (by decide)))
  exact a_vret dTold_addBytes_46 rfl ⟨rfl, rfl, rfl, rfl⟩
theorem c_M_four {S : Nat × (Nat → Int32)} {d n : Nat} {I : mI} {J : mJ} {R : mR} (hn : 122 ≤ n) (hR : m_fin R) {t : Nat → Int32} {len : Nat} {v : Int32} (hlen : len + 4 ≤ 600) : RUN S d YM_four [.ref 95, .int v] (tpR I t len) J R n none (tpR I (t4 byR t len v) (len + 4)) J R n := by
  show AW S _ YM_four n n _ 0 [(0, .ref 95), (1, .int v)] [] (tpR I t len) J R n
  refine a_bipush (v := 24) dM_four_0 (by decide) ?_
  refine a_istore_n (lv' := [(2, .int 24), (0, .ref 95), (1, .int v)]) dM_four_2 rfl (by decide) rfl ?_
  refine a_iload_n 0 dM_four_3 rfl rfl ?_
  refine a_if_lt (tgt := 38) dM_four_4 (by decide) (fun c => False.elim (absurd c (by decide))) (fun _ => ?_)
  refine a_aload_n 1 dM_four_7 rfl rfl ?_
  refine a_geta (r := 96) dM_four_8 fl12_7 rfl ly_95 (by omega) (rf_95_1 hR) ?_
  refine a_aload_n 1 dM_four_11 rfl rfl ?_
  refine a_geta (r := 97) dM_four_12 fl12_13 rfl ly_95 (by omega) (rf_95_2 hR) ?_
  refine a_iconst (v := 0) dM_four_15 (by decide) ?_
  refine a_ialdN (a := 0) dM_four_16 ly_97 (by omega) (by omega) (by decide) ?_
  rw [show (tpR I t len) 97 0 = (nI len) from rfl]
  refine a_iload_n 2 dM_four_17 rfl rfl ?_
  refine a_iload_n 0 dM_four_18 rfl rfl ?_
  refine a_ishr dM_four_19 ?_
  refine a_i2b dM_four_20 ?_
  refine a_bastN (a := len) dM_four_21 ly_96 (by omega) (by omega) (by decide) ?_
  rw [tpR_t]
  refine a_aload_n 1 dM_four_22 rfl rfl ?_
  refine a_geta (r := 97) dM_four_23 fl12_13 rfl ly_95 (by omega) (rf_95_2 hR) ?_
  refine a_iconst (v := 0) dM_four_26 (by decide) ?_
  refine a_dup2 dM_four_27 rfl rfl ?_
  refine a_ialdN (a := 0) dM_four_28 ly_97 (by omega) (by omega) (by decide) ?_
  rw [show (tpR I (va_up t len (Int8.toInt32 (Int32.toInt8 (Int8.toInt32 (Int32.toInt8 (v >>> (24 &&& 31))))))) len) 97 0 = (nI len) from rfl]
  refine a_iconst (v := 1) dM_four_29 (by decide) ?_
  refine a_iaddN (a := len) (b := 1) dM_four_30 ?_
  refine a_iastN (a := 0) dM_four_31 ly_97 (by omega) (by omega) (by decide) ?_
  rw [tpR_l]
  refine a_iinc (v := 16) (lv' := [(2, .int 16), (0, .ref 95), (1, .int v)]) 0 dM_four_32 rfl (by decide) (by decide) rfl ?_
  refine a_goto (tgt := 3) dM_four_35 (by decide) ?_
  refine a_iload_n 0 dM_four_3 rfl rfl ?_
  refine a_if_lt (tgt := 38) dM_four_4 (by decide) (fun c => False.elim (absurd c (by decide))) (fun _ => ?_)
  refine a_aload_n 1 dM_four_7 rfl rfl ?_
  refine a_geta (r := 96) dM_four_8 fl12_7 rfl ly_95 (by omega) (rf_95_1 hR) ?_
  refine a_aload_n 1 dM_four_11 rfl rfl ?_
  refine a_geta (r := 97) dM_four_12 fl12_13 rfl ly_95 (by omega) (rf_95_2 hR) ?_
  refine a_iconst (v := 0) dM_four_15 (by decide) ?_
  refine a_ialdN (a := 0) dM_four_16 ly_97 (by omega) (by omega) (by decide) ?_
  rw [show (tpR I (va_up t len (Int8.toInt32 (Int32.toInt8 (Int8.toInt32 (Int32.toInt8 (v >>> (24 &&& 31))))))) (len + 1)) 97 0 = (nI (len + 1)) from rfl]
  refine a_iload_n 2 dM_four_17 rfl rfl ?_
  refine a_iload_n 0 dM_four_18 rfl rfl ?_
  refine a_ishr dM_four_19 ?_
  refine a_i2b dM_four_20 ?_
  refine a_bastN (a := (len + 1)) dM_four_21 ly_96 (by omega) (by omega) (by decide) ?_
  rw [tpR_t]
  refine a_aload_n 1 dM_four_22 rfl rfl ?_
  refine a_geta (r := 97) dM_four_23 fl12_13 rfl ly_95 (by omega) (rf_95_2 hR) ?_
  refine a_iconst (v := 0) dM_four_26 (by decide) ?_
  refine a_dup2 dM_four_27 rfl rfl ?_
  refine a_ialdN (a := 0) dM_four_28 ly_97 (by omega) (by omega) (by decide) ?_
  rw [show (tpR I (va_up (va_up t len (Int8.toInt32 (Int32.toInt8 (Int8.toInt32 (Int32.toInt8 (v >>> (24 &&& 31))))))) (len + 1) (Int8.toInt32 (Int32.toInt8 (Int8.toInt32 (Int32.toInt8 (v >>> (16 &&& 31))))))) (len + 1)) 97 0 = (nI (len + 1)) from rfl]
  refine a_iconst (v := 1) dM_four_29 (by decide) ?_
  refine a_iaddN (a := (len + 1)) (b := 1) dM_four_30 ?_
  refine a_iastN (a := 0) dM_four_31 ly_97 (by omega) (by omega) (by decide) ?_
  rw [tpR_l]
  refine a_iinc (v := 8) (lv' := [(2, .int 8), (0, .ref 95), (1, .int v)]) 0 dM_four_32 rfl (by decide) (by decide) rfl ?_
  refine a_goto (tgt := 3) dM_four_35 (by decide) ?_
  refine a_iload_n 0 dM_four_3 rfl rfl ?_
  refine a_if_lt (tgt := 38) dM_four_4 (by decide) (fun c => False.elim (absurd c (by decide))) (fun _ => ?_)
  refine a_aload_n 1 dM_four_7 rfl rfl ?_
  refine a_geta (r := 96) dM_four_8 fl12_7 rfl ly_95 (by omega) (rf_95_1 hR) ?_
  refine a_aload_n 1 dM_four_11 rfl rfl ?_
  refine a_geta (r := 97) dM_four_12 fl12_13 rfl ly_95 (by omega) (rf_95_2 hR) ?_
  refine a_iconst (v := 0) dM_four_15 (by decide) ?_
  refine a_ialdN (a := 0) dM_four_16 ly_97 (by omega) (by omega) (by decide) ?_
  rw [show (tpR I (va_up (va_up t len (Int8.toInt32 (Int32.toInt8 (Int8.toInt32 (Int32.toInt8 (v >>> (24 &&& 31))))))) (len + 1) (Int8.toInt32 (Int32.toInt8 (Int8.toInt32 (Int32.toInt8 (v >>> (16 &&& 31))))))) ((len + 1) + 1)) 97 0 = (nI ((len + 1) + 1)) from rfl]
  refine a_iload_n 2 dM_four_17 rfl rfl ?_
  refine a_iload_n 0 dM_four_18 rfl rfl ?_
  refine a_ishr dM_four_19 ?_
  refine a_i2b dM_four_20 ?_
  refine a_bastN (a := ((len + 1) + 1)) dM_four_21 ly_96 (by omega) (by omega) (by decide) ?_
  rw [tpR_t]
  refine a_aload_n 1 dM_four_22 rfl rfl ?_
  refine a_geta (r := 97) dM_four_23 fl12_13 rfl ly_95 (by omega) (rf_95_2 hR) ?_
  refine a_iconst (v := 0) dM_four_26 (by decide) ?_
  refine a_dup2 dM_four_27 rfl rfl ?_
  refine a_ialdN (a := 0) dM_four_28 ly_97 (by omega) (by omega) (by decide) ?_
  rw [show (tpR I (va_up (va_up (va_up t len (Int8.toInt32 (Int32.toInt8 (Int8.toInt32 (Int32.toInt8 (v >>> (24 &&& 31))))))) (len + 1) (Int8.toInt32 (Int32.toInt8 (Int8.toInt32 (Int32.toInt8 (v >>> (16 &&& 31))))))) ((len + 1) + 1) (Int8.toInt32 (Int32.toInt8 (Int8.toInt32 (Int32.toInt8 (v >>> (8 &&& 31))))))) ((len + 1) + 1)) 97 0 = (nI ((len + 1) + 1)) from rfl]
  refine a_iconst (v := 1) dM_four_29 (by decide) ?_
  refine a_iaddN (a := ((len + 1) + 1)) (b := 1) dM_four_30 ?_
  refine a_iastN (a := 0) dM_four_31 ly_97 (by omega) (by omega) (by decide) ?_
  rw [tpR_l]
  refine a_iinc (v := 0) (lv' := [(2, .int 0), (0, .ref 95), (1, .int v)]) 0 dM_four_32 rfl (by decide) (by decide) rfl ?_
  refine a_goto (tgt := 3) dM_four_35 (by decide) ?_
  refine a_iload_n 0 dM_four_3 rfl rfl ?_
  refine a_if_lt (tgt := 38) dM_four_4 (by decide) (fun c => False.elim (absurd c (by decide))) (fun _ => ?_)
  refine a_aload_n 1 dM_four_7 rfl rfl ?_
  refine a_geta (r := 96) dM_four_8 fl12_7 rfl ly_95 (by omega) (rf_95_1 hR) ?_
  refine a_aload_n 1 dM_four_11 rfl rfl ?_
  refine a_geta (r := 97) dM_four_12 fl12_13 rfl ly_95 (by omega) (rf_95_2 hR) ?_
  refine a_iconst (v := 0) dM_four_15 (by decide) ?_
  refine a_ialdN (a := 0) dM_four_16 ly_97 (by omega) (by omega) (by decide) ?_
  rw [show (tpR I (va_up (va_up (va_up t len (Int8.toInt32 (Int32.toInt8 (Int8.toInt32 (Int32.toInt8 (v >>> (24 &&& 31))))))) (len + 1) (Int8.toInt32 (Int32.toInt8 (Int8.toInt32 (Int32.toInt8 (v >>> (16 &&& 31))))))) ((len + 1) + 1) (Int8.toInt32 (Int32.toInt8 (Int8.toInt32 (Int32.toInt8 (v >>> (8 &&& 31))))))) (((len + 1) + 1) + 1)) 97 0 = (nI (((len + 1) + 1) + 1)) from rfl]
  refine a_iload_n 2 dM_four_17 rfl rfl ?_
  refine a_iload_n 0 dM_four_18 rfl rfl ?_
  refine a_ishr dM_four_19 ?_
  refine a_i2b dM_four_20 ?_
  refine a_bastN (a := (((len + 1) + 1) + 1)) dM_four_21 ly_96 (by omega) (by omega) (by decide) ?_
  rw [tpR_t]
  refine a_aload_n 1 dM_four_22 rfl rfl ?_
  refine a_geta (r := 97) dM_four_23 fl12_13 rfl ly_95 (by omega) (rf_95_2 hR) ?_
  refine a_iconst (v := 0) dM_four_26 (by decide) ?_
  refine a_dup2 dM_four_27 rfl rfl ?_
  refine a_ialdN (a := 0) dM_four_28 ly_97 (by omega) (by omega) (by decide) ?_
  rw [show (tpR I (va_up (va_up (va_up (va_up t len (Int8.toInt32 (Int32.toInt8 (Int8.toInt32 (Int32.toInt8 (v >>> (24 &&& 31))))))) (len + 1) (Int8.toInt32 (Int32.toInt8 (Int8.toInt32 (Int32.toInt8 (v >>> (16 &&& 31))))))) ((len + 1) + 1) (Int8.toInt32 (Int32.toInt8 (Int8.toInt32 (Int32.toInt8 (v >>> (8 &&& 31))))))) (((len + 1) + 1) + 1) (Int8.toInt32 (Int32.toInt8 (Int8.toInt32 (Int32.toInt8 (v >>> (0 &&& 31))))))) (((len + 1) + 1) + 1)) 97 0 = (nI (((len + 1) + 1) + 1)) from rfl]
  refine a_iconst (v := 1) dM_four_29 (by decide) ?_
  refine a_iaddN (a := (((len + 1) + 1) + 1)) (b := 1) dM_four_30 ?_
  refine a_iastN (a := 0) dM_four_31 ly_97 (by omega) (by omega) (by decide) ?_
  rw [tpR_l]
  refine a_iinc (v := (-8)) (lv' := [(2, .int (-8)), (0, .ref 95), (1, .int v)]) 0 dM_four_32 rfl (by decide) (by decide) rfl ?_
  refine a_goto (tgt := 3) dM_four_35 (by decide) ?_
  refine a_iload_n 0 dM_four_3 rfl rfl ?_
  refine a_if_lt (tgt := 38) dM_four_4 (by decide) (fun _ => ?_) (fun c => False.elim (c (by decide)))
  exact a_vret dM_four_38 rfl ⟨rfl, rfl, rfl, rfl⟩
def t20 (f : Int32 → Int32 → Int32) (t : Nat → Int32) (len : Nat) (a b c d e : Int32) : Nat → Int32 := t4 f (t4 f (t4 f (t4 f (t4 f t len a) (len + 4) b) (len + 4 + 4) c) (len + 4 + 4 + 4) d) (len + 4 + 4 + 4 + 4) e
theorem c_S_feed1 {S : Nat × (Nat → Int32)} {d n : Nat} {I : mI} {J : mJ} {R : mR} (hn : 122 ≤ n) (hR : m_fin R) {t : Nat → Int32} {len : Nat} {a b c d0 e : Int32} (hlen : len + 20 ≤ 600) : RUN S (d + 1) YS_feed [.ref 0, .int a, .int b, .int c, .int d0, .int e] (tpC I t len) J R n (some (.int (nI (len + 20)))) (tpC I (t20 byC t len a b c d0 e) (len + 20)) J R n := by
  show AW S _ YS_feed n n _ 0 [(0, .ref 0), (1, .int a), (2, .int b), (3, .int c), (4, .int d0), (5, .int e)] [] (tpC I t len) J R n
  refine a_aload_n 0 dS_feed_0 rfl rfl ?_
  refine a_geta (r := 1) dS_feed_1 fl11_10 rfl ly_0 (by omega) (rf_0_0 hR) ?_
  refine a_geti dS_feed_4 fl11_69 rfl ly_1 (by omega) ?_
  rw [show (tpC I t len) 1 1 = (nI len) from rfl]
  refine a_bipush (v := 20) dS_feed_7 (by decide) ?_
  refine a_iaddN (a := len) (b := 20) dS_feed_9 ?_
  refine a_sipush (v := 600) dS_feed_10 (by decide) ?_
  refine a_icmp_le (tgt := 18) dS_feed_13 (by decide) (fun _ => ?_) (fun c => False.elim (c ((nI_leI (b := 600) (by omega) (by decide)).mpr (by omega))))
  refine a_aload_n 0 dS_feed_18 rfl rfl ?_
  refine a_geta (r := 1) dS_feed_19 fl11_10 rfl ly_0 (by omega) (rf_0_0 hR) ?_
  refine a_iload_n 1 dS_feed_22 rfl rfl ?_
  refine a_callV (Q' := m_res none (tpC I (t4 byC t len a) (len + 4)) J R) (as := [.int a]) (st := []) dS_feed_23 ml11_73 rfl (Nat.le_of_ble_eq_true rfl) ly_1 rfl rfl (by decide) (by omega) (Nat.le_of_ble_eq_true rfl) rfl (Nat.le_refl _) (Nat.le_refl _) (c_Told_addBytes hn hR (by omega)) (m_go ?_)
  show AW _ _ _ _ _ _ _ _ [] _ _ _ _
  refine a_aload_n 0 dS_feed_26 rfl rfl ?_
  refine a_geta (r := 1) dS_feed_27 fl11_10 rfl ly_0 (by omega) (rf_0_0 hR) ?_
  refine a_iload_n 2 dS_feed_30 rfl rfl ?_
  refine a_callV (Q' := m_res none (tpC I (t4 byC (t4 byC t len a) (len + 4) b) (len + 4 + 4)) J R) (as := [.int b]) (st := []) dS_feed_31 ml11_73 rfl (Nat.le_of_ble_eq_true rfl) ly_1 rfl rfl (by decide) (by omega) (Nat.le_of_ble_eq_true rfl) rfl (Nat.le_refl _) (Nat.le_refl _) (c_Told_addBytes hn hR (by omega)) (m_go ?_)
  show AW _ _ _ _ _ _ _ _ [] _ _ _ _
  refine a_aload_n 0 dS_feed_34 rfl rfl ?_
  refine a_geta (r := 1) dS_feed_35 fl11_10 rfl ly_0 (by omega) (rf_0_0 hR) ?_
  refine a_iload_n 3 dS_feed_38 rfl rfl ?_
  refine a_callV (Q' := m_res none (tpC I (t4 byC (t4 byC (t4 byC t len a) (len + 4) b) (len + 4 + 4) c) (len + 4 + 4 + 4)) J R) (as := [.int c]) (st := []) dS_feed_39 ml11_73 rfl (Nat.le_of_ble_eq_true rfl) ly_1 rfl rfl (by decide) (by omega) (Nat.le_of_ble_eq_true rfl) rfl (Nat.le_refl _) (Nat.le_refl _) (c_Told_addBytes hn hR (by omega)) (m_go ?_)
  show AW _ _ _ _ _ _ _ _ [] _ _ _ _
  refine a_aload_n 0 dS_feed_42 rfl rfl ?_
  refine a_geta (r := 1) dS_feed_43 fl11_10 rfl ly_0 (by omega) (rf_0_0 hR) ?_
  refine a_iload 4 dS_feed_46 rfl ?_
  refine a_callV (Q' := m_res none (tpC I (t4 byC (t4 byC (t4 byC (t4 byC t len a) (len + 4) b) (len + 4 + 4) c) (len + 4 + 4 + 4) d0) (len + 4 + 4 + 4 + 4)) J R) (as := [.int d0]) (st := []) dS_feed_48 ml11_73 rfl (Nat.le_of_ble_eq_true rfl) ly_1 rfl rfl (by decide) (by omega) (Nat.le_of_ble_eq_true rfl) rfl (Nat.le_refl _) (Nat.le_refl _) (c_Told_addBytes hn hR (by omega)) (m_go ?_)
  show AW _ _ _ _ _ _ _ _ [] _ _ _ _
  refine a_aload_n 0 dS_feed_51 rfl rfl ?_
  refine a_geta (r := 1) dS_feed_52 fl11_10 rfl ly_0 (by omega) (rf_0_0 hR) ?_
  refine a_iload 5 dS_feed_55 rfl ?_
  refine a_callV (Q' := m_res none (tpC I (t4 byC (t4 byC (t4 byC (t4 byC (t4 byC t len a) (len + 4) b) (len + 4 + 4) c) (len + 4 + 4 + 4) d0) (len + 4 + 4 + 4 + 4) e) (len + 4 + 4 + 4 + 4 + 4)) J R) (as := [.int e]) (st := []) dS_feed_57 ml11_73 rfl (Nat.le_of_ble_eq_true rfl) ly_1 rfl rfl (by decide) (by omega) (Nat.le_of_ble_eq_true rfl) rfl (Nat.le_refl _) (Nat.le_refl _) (c_Told_addBytes hn hR (by omega)) (m_go ?_)
  show AW _ _ _ _ _ _ _ _ [] _ _ _ _
  refine a_aload_n 0 dS_feed_60 rfl rfl ?_
  refine a_geta (r := 1) dS_feed_61 fl11_10 rfl ly_0 (by omega) (rf_0_0 hR) ?_
  refine a_geti dS_feed_64 fl11_69 rfl ly_1 (by omega) ?_
  rw [show (tpC I (t4 byC (t4 byC (t4 byC (t4 byC (t4 byC t len a) (len + 4) b) (len + 4 + 4) c) (len + 4 + 4 + 4) d0) (len + 4 + 4 + 4 + 4) e) (len + 4 + 4 + 4 + 4 + 4)) 1 1 = (nI (len + 4 + 4 + 4 + 4 + 4)) from rfl]
  exact a_iret dS_feed_67 rfl ⟨rfl, rfl, rfl, rfl⟩
theorem c_S_feed0 {S : Nat × (Nat → Int32)} {d n : Nat} {I : mI} {J : mJ} {R : mR} (hn : 122 ≤ n) (hR : m_fin R) {t : Nat → Int32} {len : Nat} {a b c d0 e : Int32} (hlen : 600 < len + 20) (hl6 : len ≤ 600) : RUN S (d + 1) YS_feed [.ref 0, .int a, .int b, .int c, .int d0, .int e] (tpC I t len) J R n (some (.int (-1))) (tpC I t len) J R n := by
  show AW S _ YS_feed n n _ 0 [(0, .ref 0), (1, .int a), (2, .int b), (3, .int c), (4, .int d0), (5, .int e)] [] (tpC I t len) J R n
  refine a_aload_n 0 dS_feed_0 rfl rfl ?_
  refine a_geta (r := 1) dS_feed_1 fl11_10 rfl ly_0 (by omega) (rf_0_0 hR) ?_
  refine a_geti dS_feed_4 fl11_69 rfl ly_1 (by omega) ?_
  rw [show (tpC I t len) 1 1 = (nI len) from rfl]
  refine a_bipush (v := 20) dS_feed_7 (by decide) ?_
  refine a_iaddN (a := len) (b := 20) dS_feed_9 ?_
  refine a_sipush (v := 600) dS_feed_10 (by decide) ?_
  refine a_icmp_le (tgt := 18) dS_feed_13 (by decide) (fun c => False.elim (absurd ((nI_leI (b := 600) (by omega) (by decide)).mp c) (by omega))) (fun _ => ?_)
  refine a_iconst (v := -1) dS_feed_16 (by decide) ?_
  exact a_iret dS_feed_17 rfl ⟨rfl, rfl, rfl, rfl⟩
theorem tpR_95 {I : mI} {t : Nat → Int32} {len : Nat} {x : Int32} : m_up (tpR I t len) 95 0 x = tpR (m_up I 95 0 x) t len := by
  unfold tpR; rw [m_up_comm (by decide)]; congr 1; funext i; by_cases h1 : i = 95 <;> by_cases h2 : i = 97 <;> simp [m_up, h1, h2] <;> omega
theorem c_M_feed1 {S : Nat × (Nat → Int32)} {d n : Nat} {I : mI} {J : mJ} {R : mR} (hn : 122 ≤ n) (hR : m_fin R) {t : Nat → Int32} {len : Nat} {a b c d0 e : Int32} (hlen : len + 20 ≤ 600) : RUN S (d + 1) YM_feed [.ref 95, .int a, .int b, .int c, .int d0, .int e] (tpR I t len) J R n (some (.int (nI (len + 20)))) (tpR (m_up I 95 0 0) (t20 byR t len a b c d0 e) (len + 20)) J R n := by
  show AW S _ YM_feed n n _ 0 [(0, .ref 95), (1, .int a), (2, .int b), (3, .int c), (4, .int d0), (5, .int e)] [] (tpR I t len) J R n
  refine a_aload_n 0 dM_feed_0 rfl rfl ?_
  refine a_iconst (v := 0) dM_feed_1 (by decide) ?_
  refine a_puti dM_feed_2 fl12_90 rfl ly_95 (by omega) ?_
  rw [tpR_95]
  refine a_aload_n 0 dM_feed_5 rfl rfl ?_
  refine a_geta (r := 97) dM_feed_6 fl12_13 rfl ly_95 (by omega) (rf_95_2 hR) ?_
  refine a_iconst (v := 0) dM_feed_9 (by decide) ?_
  refine a_ialdN (a := 0) dM_feed_10 ly_97 (by omega) (by omega) (by decide) ?_
  rw [show (tpR (m_up I 95 0 0) t len) 97 0 = (nI len) from rfl]
  refine a_bipush (v := 20) dM_feed_11 (by decide) ?_
  refine a_iaddN (a := len) (b := 20) dM_feed_13 ?_
  refine a_sipush (v := 600) dM_feed_14 (by decide) ?_
  refine a_icmp_le (tgt := 22) dM_feed_17 (by decide) (fun _ => ?_) (fun c => False.elim (c ((nI_leI (b := 600) (by omega) (by decide)).mpr (by omega))))
  refine a_aload_n 0 dM_feed_22 rfl rfl ?_
  refine a_iload_n 1 dM_feed_23 rfl rfl ?_
  refine a_callV (Q' := m_res none (tpR (m_up I 95 0 0) (t4 byR t len a) (len + 4)) J R) (as := [.int a]) (st := []) dM_feed_24 ml12_106 rfl (Nat.le_of_ble_eq_true rfl) ly_95 rfl rfl (by decide) (by omega) (Nat.le_of_ble_eq_true rfl) rfl (Nat.le_refl _) (Nat.le_refl _) (c_M_four hn hR (by omega)) (m_go ?_)
  show AW _ _ _ _ _ _ _ _ [] _ _ _ _
  refine a_aload_n 0 dM_feed_27 rfl rfl ?_
  refine a_iload_n 2 dM_feed_28 rfl rfl ?_
  refine a_callV (Q' := m_res none (tpR (m_up I 95 0 0) (t4 byR (t4 byR t len a) (len + 4) b) (len + 4 + 4)) J R) (as := [.int b]) (st := []) dM_feed_29 ml12_106 rfl (Nat.le_of_ble_eq_true rfl) ly_95 rfl rfl (by decide) (by omega) (Nat.le_of_ble_eq_true rfl) rfl (Nat.le_refl _) (Nat.le_refl _) (c_M_four hn hR (by omega)) (m_go ?_)
  show AW _ _ _ _ _ _ _ _ [] _ _ _ _
  refine a_aload_n 0 dM_feed_32 rfl rfl ?_
  refine a_iload_n 3 dM_feed_33 rfl rfl ?_
  refine a_callV (Q' := m_res none (tpR (m_up I 95 0 0) (t4 byR (t4 byR (t4 byR t len a) (len + 4) b) (len + 4 + 4) c) (len + 4 + 4 + 4)) J R) (as := [.int c]) (st := []) dM_feed_34 ml12_106 rfl (Nat.le_of_ble_eq_true rfl) ly_95 rfl rfl (by decide) (by omega) (Nat.le_of_ble_eq_true rfl) rfl (Nat.le_refl _) (Nat.le_refl _) (c_M_four hn hR (by omega)) (m_go ?_)
  show AW _ _ _ _ _ _ _ _ [] _ _ _ _
  refine a_aload_n 0 dM_feed_37 rfl rfl ?_
  refine a_iload 4 dM_feed_38 rfl ?_
  refine a_callV (Q' := m_res none (tpR (m_up I 95 0 0) (t4 byR (t4 byR (t4 byR (t4 byR t len a) (len + 4) b) (len + 4 + 4) c) (len + 4 + 4 + 4) d0) (len + 4 + 4 + 4 + 4)) J R) (as := [.int d0]) (st := []) dM_feed_40 ml12_106 rfl (Nat.le_of_ble_eq_true rfl) ly_95 rfl rfl (by decide) (by omega) (Nat.le_of_ble_eq_true rfl) rfl (Nat.le_refl _) (Nat.le_refl _) (c_M_four hn hR (by omega)) (m_go ?_)
  show AW _ _ _ _ _ _ _ _ [] _ _ _ _
  refine a_aload_n 0 dM_feed_43 rfl rfl ?_
  refine a_iload 5 dM_feed_44 rfl ?_
  refine a_callV (Q' := m_res none (tpR (m_up I 95 0 0) (t4 byR (t4 byR (t4 byR (t4 byR (t4 byR t len a) (len + 4) b) (len + 4 + 4) c) (len + 4 + 4 + 4) d0) (len + 4 + 4 + 4 + 4) e) (len + 4 + 4 + 4 + 4 + 4)) J R) (as := [.int e]) (st := []) dM_feed_46 ml12_106 rfl (Nat.le_of_ble_eq_true rfl) ly_95 rfl rfl (by decide) (by omega) (Nat.le_of_ble_eq_true rfl) rfl (Nat.le_refl _) (Nat.le_refl _) (c_M_four hn hR (by omega)) (m_go ?_)
  show AW _ _ _ _ _ _ _ _ [] _ _ _ _
  refine a_aload_n 0 dM_feed_49 rfl rfl ?_
  refine a_geta (r := 97) dM_feed_50 fl12_13 rfl ly_95 (by omega) (rf_95_2 hR) ?_
  refine a_iconst (v := 0) dM_feed_53 (by decide) ?_
  refine a_ialdN (a := 0) dM_feed_54 ly_97 (by omega) (by omega) (by decide) ?_
  rw [show (tpR (m_up I 95 0 0) (t4 byR (t4 byR (t4 byR (t4 byR (t4 byR t len a) (len + 4) b) (len + 4 + 4) c) (len + 4 + 4 + 4) d0) (len + 4 + 4 + 4 + 4) e) (len + 4 + 4 + 4 + 4 + 4)) 97 0 = (nI (len + 4 + 4 + 4 + 4 + 4)) from rfl]
  exact a_iret dM_feed_55 rfl ⟨rfl, rfl, rfl, rfl⟩
theorem c_M_feed0 {S : Nat × (Nat → Int32)} {d n : Nat} {I : mI} {J : mJ} {R : mR} (hn : 122 ≤ n) (hR : m_fin R) {t : Nat → Int32} {len : Nat} {a b c d0 e : Int32} (hlen : 600 < len + 20) (hl6 : len ≤ 600) : RUN S (d + 1) YM_feed [.ref 95, .int a, .int b, .int c, .int d0, .int e] (tpR I t len) J R n (some (.int (-1))) (tpR (m_up I 95 0 0) t len) J R n := by
  show AW S _ YM_feed n n _ 0 [(0, .ref 95), (1, .int a), (2, .int b), (3, .int c), (4, .int d0), (5, .int e)] [] (tpR I t len) J R n
  refine a_aload_n 0 dM_feed_0 rfl rfl ?_
  refine a_iconst (v := 0) dM_feed_1 (by decide) ?_
  refine a_puti dM_feed_2 fl12_90 rfl ly_95 (by omega) ?_
  rw [tpR_95]
  refine a_aload_n 0 dM_feed_5 rfl rfl ?_
  refine a_geta (r := 97) dM_feed_6 fl12_13 rfl ly_95 (by omega) (rf_95_2 hR) ?_
  refine a_iconst (v := 0) dM_feed_9 (by decide) ?_
  refine a_ialdN (a := 0) dM_feed_10 ly_97 (by omega) (by omega) (by decide) ?_
  rw [show (tpR (m_up I 95 0 0) t len) 97 0 = (nI len) from rfl]
  refine a_bipush (v := 20) dM_feed_11 (by decide) ?_
  refine a_iaddN (a := len) (b := 20) dM_feed_13 ?_
  refine a_sipush (v := 600) dM_feed_14 (by decide) ?_
  refine a_icmp_le (tgt := 22) dM_feed_17 (by decide) (fun c => False.elim (absurd ((nI_leI (b := 600) (by omega) (by decide)).mp c) (by omega))) (fun _ => ?_)
  refine a_iconst (v := -1) dM_feed_20 (by decide) ?_
  exact a_iret dM_feed_21 rfl ⟨rfl, rfl, rfl, rfl⟩
