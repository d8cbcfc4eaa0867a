/-- the reference's memory with a course in it: moods, what came last, how many came; nights, left, slipped, done, failed, idle -/
def cfR (f : Nat → Int32) (ni le sl dn fa id0 : Int32) : Nat → Int32 := fun k => if k = 32 then ni else if k = 33 then le else if k = 34 then sl else if k = 35 then dn else if k = 36 then fa else if k = 37 then id0 else f k
def crR (I : mI) (md ls cm : Nat → Int32) (ni le sl dn fa id0 : Int32) : mI := m_row (m_row (m_row (m_row I 95 (cfR (I 95) ni le sl dn fa id0)) 107 md) 108 ls) 109 cm
section CrR
variable {I : mI} {md ls cm : Nat → Int32} {ni le sl dn fa id0 : Int32} {h : Nat} {x : Int32}
theorem crR_md : m_up (crR I md ls cm ni le sl dn fa id0) 107 h x = crR I (va_up md h x) ls cm ni le sl dn fa id0 := by
  unfold crR; rw [m_up_comm (by decide), m_up_comm (by decide), m_up_r]
theorem crR_ls : m_up (crR I md ls cm ni le sl dn fa id0) 108 h x = crR I md (va_up ls h x) cm ni le sl dn fa id0 := by
  unfold crR; rw [m_up_comm (by decide), m_up_r]
theorem crR_cm : m_up (crR I md ls cm ni le sl dn fa id0) 109 h x = crR I md ls (va_up cm h x) ni le sl dn fa id0 := by
  unfold crR; rw [m_up_r]
theorem crR_32 : m_up (crR I md ls cm ni le sl dn fa id0) 95 32 x = crR I md ls cm x le sl dn fa id0 := by
  unfold crR
  rw [m_up_comm (by decide), m_up_comm (by decide), m_up_comm (by decide), m_up_r]
  congr 4
  funext k
  unfold va_up cfR
  by_cases hk : k = 32
  · subst hk; rfl
  · rw [if_neg hk]
    repeat' split
    all_goals (first | rfl | omega)
theorem crR_33 : m_up (crR I md ls cm ni le sl dn fa id0) 95 33 x = crR I md ls cm ni x sl dn fa id0 := by
  unfold crR
  rw [m_up_comm (by decide), m_up_comm (by decide), m_up_comm (by decide), m_up_r]
  congr 4
  funext k
  unfold va_up cfR
  by_cases hk : k = 33
  · subst hk; rfl
  · rw [if_neg hk]
    repeat' split
    all_goals (first | rfl | omega)
theorem crR_34 : m_up (crR I md ls cm ni le sl dn fa id0) 95 34 x = crR I md ls cm ni le x dn fa id0 := by
  unfold crR
  rw [m_up_comm (by decide), m_up_comm (by decide), m_up_comm (by decide), m_up_r]
  congr 4
  funext k
  unfold va_up cfR
  by_cases hk : k = 34
  · subst hk; rfl
  · rw [if_neg hk]
    repeat' split
    all_goals (first | rfl | omega)
theorem crR_35 : m_up (crR I md ls cm ni le sl dn fa id0) 95 35 x = crR I md ls cm ni le sl x fa id0 := by
  unfold crR
  rw [m_up_comm (by decide), m_up_comm (by decide), m_up_comm (by decide), m_up_r]
  congr 4
  funext k
  unfold va_up cfR
  by_cases hk : k = 35
  · subst hk; rfl
  · rw [if_neg hk]
    repeat' split
    all_goals (first | rfl | omega)
theorem crR_36 : m_up (crR I md ls cm ni le sl dn fa id0) 95 36 x = crR I md ls cm ni le sl dn x id0 := by
  unfold crR
  rw [m_up_comm (by decide), m_up_comm (by decide), m_up_comm (by decide), m_up_r]
  congr 4
  funext k
  unfold va_up cfR
  by_cases hk : k = 36
  · subst hk; rfl
  · rw [if_neg hk]
    repeat' split
    all_goals (first | rfl | omega)
theorem crR_37 : m_up (crR I md ls cm ni le sl dn fa id0) 95 37 x = crR I md ls cm ni le sl dn fa x := by
  unfold crR
  rw [m_up_comm (by decide), m_up_comm (by decide), m_up_comm (by decide), m_up_r]
  congr 4
  funext k
  unfold va_up cfR
  by_cases hk : k = 37
  · subst hk; rfl
  · rw [if_neg hk]
    repeat' split
    all_goals (first | rfl | omega)
theorem crR_107 : crR I md ls cm ni le sl dn fa id0 107 = md := by unfold crR; rw [m_row_ne (by decide), m_row_ne (by decide), m_row_eq]
theorem crR_108 : crR I md ls cm ni le sl dn fa id0 108 = ls := by unfold crR; rw [m_row_ne (by decide), m_row_eq]
theorem crR_109 : crR I md ls cm ni le sl dn fa id0 109 = cm := by unfold crR; rw [m_row_eq]
theorem crR_self : crR I (I 107) (I 108) (I 109) (I 95 32) (I 95 33) (I 95 34) (I 95 35) (I 95 36) (I 95 37) = I := by
  have e : cfR (I 95) (I 95 32) (I 95 33) (I 95 34) (I 95 35) (I 95 36) (I 95 37) = I 95 := by
    funext k
    unfold cfR
    repeat' split
    all_goals (first | rfl | (subst_vars; rfl))
  unfold crR
  rw [e, m_row_self, m_row_self, m_row_self, m_row_self]
theorem crR_o {a : Nat} (h : a ≠ 95) (h7 : a ≠ 107) (h8 : a ≠ 108) (h9 : a ≠ 109) : crR I md ls cm ni le sl dn fa id0 a = I a := by
  unfold crR; rw [m_row_ne h9, m_row_ne h8, m_row_ne h7, m_row_ne h]
theorem crR_f {k : Nat} (h : k < 32 ∨ 37 < k) : crR I md ls cm ni le sl dn fa id0 95 k = I 95 k := by
  show cfR (I 95) ni le sl dn fa id0 k = _
  unfold cfR
  rw [if_neg (by omega), if_neg (by omega), if_neg (by omega), if_neg (by omega), if_neg (by omega), if_neg (by omega)]
theorem crR_oR {k : Nat} : oR (crR I md ls cm ni le sl dn fa id0) k = oR I k := by
  funext a; unfold oR; rw [crR_o (by decide) (by decide) (by decide) (by decide)]
theorem crR_bsR {k : Nat} : bsR (crR I md ls cm ni le sl dn fa id0) k = bsR I k := by
  funext a; unfold bsR; rw [crR_oR]
theorem crR_dsR {k : Nat} : dsR (crR I md ls cm ni le sl dn fa id0) k = dsR I k := by
  funext a b; unfold dsR; rw [crR_oR, crR_bsR, crR_f (by decide)]
theorem crR_WFk {k : Nat} (h : WFk I k) : WFk (crR I md ls cm ni le sl dn fa id0) k := by
  unfold WFk kdN; rw [crR_oR]; exact h
end CrR
theorem c_M_comes {S : Nat × (Nat → Int32)} {d n : Nat} {I : mI} {J : mJ} {R : mR} {md ls cm : Nat → Int32} {ni le sl dn fa id0 : Int32}  {ko nh nl : Nat} (hn : 122 ≤ n) (hR : m_fin R) (ho : I 95 23 = nI ko) (hk : ko < 7) (hh : I 95 24 = nI nh) (hnh : nh ≤ 6) (hl : I 95 25 = nI nl) (hnl : nl ≤ 10) (hW : WFk I ko) {l h : Nat} (hl10 : l < 10) (hh6 : h < 6) (hx : kOK (ls h)) : RUN S (d + 4) YM_comes [.ref 95, .int (nI l), .int (nI h)] (crR I md ls cm ni le sl dn fa id0) J R n (some (.int (dsR I ko l (ls h)))) (crR I (va_up md h (md h + dsR I ko l (ls h))) (va_up ls h (oR I ko (19 + l))) (va_up cm h (cm h + 1)) ni le sl dn fa id0) J R n := by
  show AW S _ YM_comes n n _ 0 [(0, .ref 95), (1, .int (nI l)), (2, .int (nI h))] [] (crR I md ls cm ni le sl dn fa id0) J R n
  refine a_aload_n 0 dM_comes_0 rfl rfl ?_
  refine a_iload_n 1 dM_comes_1 rfl rfl ?_
  refine a_aload_n 0 dM_comes_2 rfl rfl ?_
  refine a_geta (r := 108) dM_comes_3 fl12_47 rfl ly_95 (by omega) (rf_95_28 hR) ?_
  refine a_iload_n 2 dM_comes_6 rfl rfl ?_
  refine a_ialdN (a := h) dM_comes_7 ly_108 (by omega) (by omega) (by decide) ?_
  rw [show (crR I md ls cm ni le sl dn fa id0) 108 h = ls h from rfl]
  refine a_callV (Q' := m_res (some (.int (dsR I ko l (ls h)))) (crR I md ls cm ni le sl dn fa id0) J R) (as := [.int (nI l), .int (ls h)]) (st := []) dM_comes_8 ml12_283 rfl (Nat.le_of_ble_eq_true rfl) ly_95 rfl rfl (by decide) (by omega) (Nat.le_of_ble_eq_true rfl) rfl (Nat.le_refl _) (Nat.le_refl _) (by have h := c_M_doesBy (S := S) (d := d) (J := J) (I := (crR I md ls cm ni le sl dn fa id0)) (ko := ko) (l := l) (x := (ls h)) hn hR (by rw [crR_f (by decide)]; exact ho) hk (by omega) (crR_WFk hW) (by assumption); rw [crR_dsR] at h; exact h) (m_go ?_)
  show AW _ _ _ _ _ _ _ _ [.int (dsR I ko l (ls h))] _ _ _ _
  refine a_istore_n (lv' := [(3, .int (dsR I ko l (ls h))), (0, .ref 95), (1, .int (nI l)), (2, .int (nI h))]) dM_comes_11 rfl (by decide) rfl ?_
  refine a_aload_n 1 dM_comes_12 rfl rfl ?_
  refine a_geta (r := 107) dM_comes_13 fl12_44 rfl ly_95 (by omega) (rf_95_27 hR) ?_
  refine a_iload_n 3 dM_comes_16 rfl rfl ?_
  refine a_dup2 dM_comes_17 rfl rfl ?_
  refine a_ialdN (a := h) dM_comes_18 ly_107 (by omega) (by omega) (by decide) ?_
  rw [show (crR I md ls cm ni le sl dn fa id0) 107 h = md h from rfl]
  refine a_iload_n 0 dM_comes_19 rfl rfl ?_
  refine a_iadd dM_comes_20 ?_
  refine a_iastN (a := h) dM_comes_21 ly_107 (by omega) (by omega) (by decide) ?_
  rw [crR_md]
  refine a_aload_n 1 dM_comes_22 rfl rfl ?_
  refine a_geta (r := 108) dM_comes_23 fl12_47 rfl ly_95 (by omega) (rf_95_28 hR) ?_
  refine a_iload_n 3 dM_comes_26 rfl rfl ?_
  refine a_aload_n 1 dM_comes_27 rfl rfl ?_
  refine a_iload_n 2 dM_comes_28 rfl rfl ?_
  refine a_callV (Q' := m_res (some (.int (oR I ko (19 + l)))) (crR I (va_up md h ((md h) + (dsR I ko l (ls h)))) ls cm ni le sl dn fa id0) J R) (as := [.int (nI l)]) (st := [.int (nI h), .ref 108]) dM_comes_29 ml12_271 rfl (Nat.le_of_ble_eq_true rfl) ly_95 rfl rfl (by decide) (by omega) (Nat.le_of_ble_eq_true rfl) rfl (Nat.le_refl _) (Nat.le_refl _) (by have h := c_M_kind (S := S) (d := d + 2) (J := J) (I := (crR I (va_up md h ((md h) + (dsR I ko l (ls h)))) ls cm ni le sl dn fa id0)) (ko := ko) (l := l) hn hR (by rw [crR_f (by decide)]; exact ho) hk (by omega); rw [crR_oR] at h; exact h) (m_go ?_)
  show AW _ _ _ _ _ _ _ _ [.int (oR I ko (19 + l)), .int (nI h), .ref 108] _ _ _ _
  refine a_iastN (a := h) dM_comes_32 ly_108 (by omega) (by omega) (by decide) ?_
  rw [crR_ls]
  refine a_aload_n 1 dM_comes_33 rfl rfl ?_
  refine a_geta (r := 109) dM_comes_34 fl12_50 rfl ly_95 (by omega) (rf_95_29 hR) ?_
  refine a_iload_n 3 dM_comes_37 rfl rfl ?_
  refine a_dup2 dM_comes_38 rfl rfl ?_
  refine a_ialdN (a := h) dM_comes_39 ly_109 (by omega) (by omega) (by decide) ?_
  rw [show (crR I (va_up md h ((md h) + (dsR I ko l (ls h)))) (va_up ls h (oR I ko (19 + l))) cm ni le sl dn fa id0) 109 h = cm h from rfl]
  refine a_iconstN (a := 1) dM_comes_40 (by decide) ?_
  refine a_iadd dM_comes_41 ?_
  refine a_iastN (a := h) dM_comes_42 ly_109 (by omega) (by omega) (by decide) ?_
  rw [crR_cm]
  refine a_iload_n 0 dM_comes_43 rfl rfl ?_
  exact a_iret dM_comes_44 rfl ⟨rfl, rfl, rfl, rfl⟩
theorem c_M_given {S : Nat × (Nat → Int32)} {d n : Nat} {I : mI} {J : mJ} {R : mR} {md ls cm : Nat → Int32} {ni le sl dn fa id0 : Int32}  {ko nh nl : Nat} (hn : 122 ≤ n) (hR : m_fin R) (ho : I 95 23 = nI ko) (hk : ko < 7) (hh : I 95 24 = nI nh) (hnh : nh ≤ 6) (hl : I 95 25 = nI nl) (hnl : nl ≤ 10) (hW : WFk I ko) {l h : Nat} (hl10 : l < 10) (hh6 : h < 6) (hx : kOK (ls h)) : RUN S (d + 5) YM_given [.ref 95, .int (nI l), .int (nI h)] (crR I md ls cm ni le sl dn fa id0) J R n none (crR I (va_up md h (md h + dsR I ko l (ls h))) (va_up ls h (oR I ko (19 + l))) (va_up cm h (cm h + 1)) ni (le &&& (1 <<< (nI l &&& 31) ^^^ -1)) sl (dn + dsR I ko l (ls h)) (fa ||| (if dsR I ko l (ls h) = bsR I ko l then nI 0 else nI 1 <<< (nI l &&& 31))) (id0 + (if dsR I ko l (ls h) = 0 then nI 1 else nI 0))) J R n := by
  show AW S _ YM_given n n _ 0 [(0, .ref 95), (1, .int (nI l)), (2, .int (nI h))] [] (crR I md ls cm ni le sl dn fa id0) J R n
  refine a_aload_n 0 dM_given_0 rfl rfl ?_
  refine a_iload_n 1 dM_given_1 rfl rfl ?_
  refine a_iload_n 2 dM_given_2 rfl rfl ?_
  refine a_callV (Q' := m_res (some (.int (dsR I ko l (ls h)))) (crR I (va_up md h (md h + (dsR I ko l (ls h)))) (va_up ls h (oR I ko (19 + l))) (va_up cm h (cm h + 1)) ni le sl dn fa id0) J R) (as := [.int (nI l), .int (nI h)]) (st := []) dM_given_3 ml12_316 rfl (Nat.le_of_ble_eq_true rfl) ly_95 rfl rfl (by decide) (by omega) (Nat.le_of_ble_eq_true rfl) rfl (Nat.le_refl _) (Nat.le_refl _) (c_M_comes hn hR ho hk hh hnh hl hnl hW (by omega) (by omega) hx) (m_go ?_)
  show AW _ _ _ _ _ _ _ _ [.int (dsR I ko l (ls h))] _ _ _ _
  refine a_istore_n (lv' := [(3, .int (dsR I ko l (ls h))), (0, .ref 95), (1, .int (nI l)), (2, .int (nI h))]) dM_given_6 rfl (by decide) rfl ?_
  refine a_aload_n 1 dM_given_7 rfl rfl ?_
  refine a_dup dM_given_8 rfl ?_
  refine a_geti dM_given_9 fl12_307 rfl ly_95 (by omega) ?_
  rw [show (crR I (va_up md h (md h + (dsR I ko l (ls h)))) (va_up ls h (oR I ko (19 + l))) (va_up cm h (cm h + 1)) ni le sl dn fa id0) 95 35 = dn from rfl]
  refine a_iload_n 0 dM_given_12 rfl rfl ?_
  refine a_iadd dM_given_13 ?_
  refine a_puti dM_given_14 fl12_307 rfl ly_95 (by omega) ?_
  rw [crR_35]
  refine a_aload_n 1 dM_given_17 rfl rfl ?_
  refine a_dup dM_given_18 rfl ?_
  refine a_geti dM_given_19 fl12_301 rfl ly_95 (by omega) ?_
  rw [show (crR I (va_up md h (md h + (dsR I ko l (ls h)))) (va_up ls h (oR I ko (19 + l))) (va_up cm h (cm h + 1)) ni le sl (dn + (dsR I ko l (ls h))) fa id0) 95 33 = le from rfl]
  refine a_iconstN (a := 1) dM_given_22 (by decide) ?_
  refine a_iload_n 2 dM_given_23 rfl rfl ?_
  refine a_ishl dM_given_24 ?_
  refine a_iconst (v := -1) dM_given_25 (by decide) ?_
  refine a_ixor dM_given_26 ?_
  refine a_iand dM_given_27 ?_
  refine a_puti dM_given_28 fl12_301 rfl ly_95 (by omega) ?_
  rw [crR_33]
  refine a_aload_n 1 dM_given_31 rfl rfl ?_
  refine a_dup dM_given_32 rfl ?_
  refine a_geti dM_given_33 fl12_310 rfl ly_95 (by omega) ?_
  rw [show (crR I (va_up md h (md h + (dsR I ko l (ls h)))) (va_up ls h (oR I ko (19 + l))) (va_up cm h (cm h + 1)) ni (le &&& (((nI 1) <<< ((nI l) &&& 31)) ^^^ (-1))) sl (dn + (dsR I ko l (ls h))) fa id0) 95 36 = fa from rfl]
  refine a_iload_n 0 dM_given_36 rfl rfl ?_
  refine a_aload_n 1 dM_given_37 rfl rfl ?_
  refine a_iload_n 2 dM_given_38 rfl rfl ?_
  refine a_callV (Q' := m_res (some (.int (bsR I ko l))) (crR I (va_up md h (md h + (dsR I ko l (ls h)))) (va_up ls h (oR I ko (19 + l))) (va_up cm h (cm h + 1)) ni (le &&& (((nI 1) <<< ((nI l) &&& 31)) ^^^ (-1))) sl (dn + (dsR I ko l (ls h))) fa id0) J R) (as := [.int (nI l)]) (st := [.int (dsR I ko l (ls h)), .int fa, .ref 95]) dM_given_39 ml12_274 rfl (Nat.le_of_ble_eq_true rfl) ly_95 rfl rfl (by decide) (by omega) (Nat.le_of_ble_eq_true rfl) rfl (Nat.le_refl _) (Nat.le_refl _) (by have h := c_M_base (S := S) (d := d + 2) (J := J) (I := (crR I (va_up md h (md h + (dsR I ko l (ls h)))) (va_up ls h (oR I ko (19 + l))) (va_up cm h (cm h + 1)) ni (le &&& (((nI 1) <<< ((nI l) &&& 31)) ^^^ (-1))) sl (dn + (dsR I ko l (ls h))) fa id0)) (ko := ko) (l := l) hn hR (by rw [crR_f (by decide)]; exact ho) hk (by omega); rw [crR_bsR] at h; exact h) (m_go ?_)
  show AW _ _ _ _ _ _ _ _ [.int (bsR I ko l), .int (dsR I ko l (ls h)), .int fa, .ref 95] _ _ _ _
  refine a_icmp_eq (tgt := 51) dM_given_42 (by decide) (fun c42 => ?_) (fun c42 => ?_)
  · refine a_iconstN (a := 0) dM_given_51 (by decide) ?_
    refine a_ior dM_given_52 ?_
    refine a_puti dM_given_53 fl12_310 rfl ly_95 (by omega) ?_
    rw [crR_36]
    refine a_aload_n 1 dM_given_56 rfl rfl ?_
    refine a_dup dM_given_57 rfl ?_
    refine a_geti dM_given_58 fl12_313 rfl ly_95 (by omega) ?_
    rw [show (crR I (va_up md h (md h + (dsR I ko l (ls h)))) (va_up ls h (oR I ko (19 + l))) (va_up cm h (cm h + 1)) ni (le &&& (((nI 1) <<< ((nI l) &&& 31)) ^^^ (-1))) sl (dn + (dsR I ko l (ls h))) (fa ||| (nI 0)) id0) 95 37 = id0 from rfl]
    refine a_iload_n 0 dM_given_61 rfl rfl ?_
    refine a_if_ne (tgt := 69) dM_given_62 (by decide) (fun c62 => ?_) (fun c62 => ?_)
    · refine a_iconstN (a := 0) dM_given_69 (by decide) ?_
      refine a_iadd dM_given_70 ?_
      refine a_puti dM_given_71 fl12_313 rfl ly_95 (by omega) ?_
      rw [crR_37]
      exact a_vret dM_given_74 rfl ⟨rfl, by rw [if_pos c42, if_neg c62]; rfl, rfl, rfl⟩
    · refine a_iconstN (a := 1) dM_given_65 (by decide) ?_
      refine a_goto (tgt := 70) dM_given_66 (by decide) ?_
      refine a_iadd dM_given_70 ?_
      refine a_puti dM_given_71 fl12_313 rfl ly_95 (by omega) ?_
      rw [crR_37]
      exact a_vret dM_given_74 rfl ⟨rfl, by rw [if_pos c42, if_pos c62]; rfl, rfl, rfl⟩
  · refine a_iconstN (a := 1) dM_given_45 (by decide) ?_
    refine a_iload_n 2 dM_given_46 rfl rfl ?_
    refine a_ishl dM_given_47 ?_
    refine a_goto (tgt := 52) dM_given_48 (by decide) ?_
    refine a_ior dM_given_52 ?_
    refine a_puti dM_given_53 fl12_310 rfl ly_95 (by omega) ?_
    rw [crR_36]
    refine a_aload_n 1 dM_given_56 rfl rfl ?_
    refine a_dup dM_given_57 rfl ?_
    refine a_geti dM_given_58 fl12_313 rfl ly_95 (by omega) ?_
    rw [show (crR I (va_up md h (md h + (dsR I ko l (ls h)))) (va_up ls h (oR I ko (19 + l))) (va_up cm h (cm h + 1)) ni (le &&& (((nI 1) <<< ((nI l) &&& 31)) ^^^ (-1))) sl (dn + (dsR I ko l (ls h))) (fa ||| ((nI 1) <<< ((nI l) &&& 31))) id0) 95 37 = id0 from rfl]
    refine a_iload_n 0 dM_given_61 rfl rfl ?_
    refine a_if_ne (tgt := 69) dM_given_62 (by decide) (fun c62 => ?_) (fun c62 => ?_)
    · refine a_iconstN (a := 0) dM_given_69 (by decide) ?_
      refine a_iadd dM_given_70 ?_
      refine a_puti dM_given_71 fl12_313 rfl ly_95 (by omega) ?_
      rw [crR_37]
      exact a_vret dM_given_74 rfl ⟨rfl, by rw [if_neg c42, if_neg c62]; rfl, rfl, rfl⟩
    · refine a_iconstN (a := 1) dM_given_65 (by decide) ?_
      refine a_goto (tgt := 70) dM_given_66 (by decide) ?_
      refine a_iadd dM_given_70 ?_
      refine a_puti dM_given_71 fl12_313 rfl ly_95 (by omega) ?_
      rw [crR_37]
      exact a_vret dM_given_74 rfl ⟨rfl, by rw [if_neg c42, if_pos c62]; rfl, rfl, rfl⟩
/-- a night's turn of a mood -/
def ntF (x : Int32) : Int32 := x + (if x ≤ nI 10 then (if nI 10 ≤ x then nI 0 else nI 1) else -1)
theorem va_fill {f g : Nat → Int32} {k : Nat} {x : Int32} (hx : x = f k) : va_up (m_fill f g k) k x = m_fill f g (k + 1) := by rw [hx]; exact m_fill_s f g k
theorem l_M_night {S : Nat × (Nat → Int32)} {d n : Nat} {I : mI} {J : mJ} {R : mR} {md ls cm : Nat → Int32} {ni le sl dn fa id0 : Int32}  (hn : 122 ≤ n) (hR : m_fin R) {x y : Int32} {Q : Option Value → mI → mJ → mR → Prop} (hQ : Q (some (.int 1)) (crR I (m_fill (fun j => ntF (md j)) md 6) (m_fill (fun _ => -1) ls 6) cm (ni + 1) le sl dn fa id0) J R) : ∀ m k, k + m = 6 → AW S (d + 6) YM_does n n Q 8 [(4, .int (nI k)), (0, .ref 95), (1, .int (nI 3)), (2, .int x), (3, .int y)] [] (crR I (m_fill (fun j => ntF (md j)) md k) (m_fill (fun _ => -1) ls k) cm ni le sl dn fa id0) J R n := by
  intro m
  induction m with
  | zero =>
    intro k hk9
    rw [show k = 6 by omega]
    refine a_iload 0 dM_does_8 rfl ?_
    refine a_bipushN (a := 6) dM_does_10 (by decide) ?_
    refine a_icmp_geN (tgt := 72) dM_does_12 (by decide) (by omega) (by omega) (fun _ => ?_) (fun c => False.elim (by omega))
    refine a_aload_n 1 dM_does_72 rfl rfl ?_
    refine a_dup dM_does_73 rfl ?_
    refine a_geti dM_does_74 fl12_298 rfl ly_95 (by omega) ?_
    rw [show (crR I (m_fill (fun j => ntF (md j)) md 6) (m_fill (fun _ => -1) ls 6) cm ni le sl dn fa id0) 95 32 = ni from rfl]
    refine a_iconstN (a := 1) dM_does_77 (by decide) ?_
    refine a_iadd dM_does_78 ?_
    refine a_puti dM_does_79 fl12_298 rfl ly_95 (by omega) ?_
    rw [crR_32]
    refine a_iconstN (a := 1) dM_does_82 (by decide) ?_
    exact a_zret dM_does_83 rfl (by rfl) hQ
  | succ m ih =>
    intro k hk9
    refine a_iload 0 dM_does_8 rfl ?_
    refine a_bipushN (a := 6) dM_does_10 (by decide) ?_
    refine a_icmp_geN (tgt := 72) dM_does_12 (by decide) (by omega) (by omega) (fun c => False.elim (by omega)) (fun _ => ?_)
    refine a_aload_n 1 dM_does_15 rfl rfl ?_
    refine a_geta (r := 107) dM_does_16 fl12_44 rfl ly_95 (by omega) (rf_95_27 hR) ?_
    refine a_iload 0 dM_does_19 rfl ?_
    refine a_dup2 dM_does_21 rfl rfl ?_
    refine a_ialdN (a := k) dM_does_22 ly_107 (by omega) (by omega) (by decide) ?_
    rw [show (crR I (m_fill (fun j => ntF (md j)) md k) (m_fill (fun _ => -1) ls k) cm ni le sl dn fa id0) 107 k = md k from (by rw [crR_107]; unfold m_fill; rw [if_neg (Nat.lt_irrefl _)])]
    refine a_aload_n 1 dM_does_23 rfl rfl ?_
    refine a_geta (r := 107) dM_does_24 fl12_44 rfl ly_95 (by omega) (rf_95_27 hR) ?_
    refine a_iload 0 dM_does_27 rfl ?_
    refine a_ialdN (a := k) dM_does_29 ly_107 (by omega) (by omega) (by decide) ?_
    rw [show (crR I (m_fill (fun j => ntF (md j)) md k) (m_fill (fun _ => -1) ls k) cm ni le sl dn fa id0) 107 k = md k from (by rw [crR_107]; unfold m_fill; rw [if_neg (Nat.lt_irrefl _)])]
    refine a_bipushN (a := 10) dM_does_30 (by decide) ?_
    refine a_icmp_le (tgt := 39) dM_does_32 (by decide) (fun c32 => ?_) (fun c32 => ?_)
    · refine a_aload_n 1 dM_does_39 rfl rfl ?_
      refine a_geta (r := 107) dM_does_40 fl12_44 rfl ly_95 (by omega) (rf_95_27 hR) ?_
      refine a_iload 0 dM_does_43 rfl ?_
      refine a_ialdN (a := k) dM_does_45 ly_107 (by omega) (by omega) (by decide) ?_
      rw [show (crR I (m_fill (fun j => ntF (md j)) md k) (m_fill (fun _ => -1) ls k) cm ni le sl dn fa id0) 107 k = md k from (by rw [crR_107]; unfold m_fill; rw [if_neg (Nat.lt_irrefl _)])]
      refine a_bipushN (a := 10) dM_does_46 (by decide) ?_
      refine a_icmp_ge (tgt := 55) dM_does_48 (by decide) (fun c48 => ?_) (fun c48 => ?_)
      · refine a_iconstN (a := 0) dM_does_55 (by decide) ?_
        refine a_iadd dM_does_56 ?_
        refine a_iastN (a := k) dM_does_57 ly_107 (by omega) (by omega) (by decide) ?_
        rw [crR_md]
        refine a_aload_n 1 dM_does_58 rfl rfl ?_
        refine a_geta (r := 108) dM_does_59 fl12_47 rfl ly_95 (by omega) (rf_95_28 hR) ?_
        refine a_iload 0 dM_does_62 rfl ?_
        refine a_iconst (v := -1) dM_does_64 (by decide) ?_
        refine a_iastN (a := k) dM_does_65 ly_108 (by omega) (by omega) (by decide) ?_
        rw [crR_ls]
        refine a_iincN (lv' := [(4, .int (nI (k + 1))), (0, .ref 95), (1, .int (nI 3)), (2, .int x), (3, .int y)]) (j := 0) dM_does_66 rfl (by decide) rfl ?_
        refine a_goto (tgt := 8) dM_does_69 (by decide) ?_
        refine a_locs (lv' := [(4, .int (nI (k + 1))), (0, .ref 95), (1, .int (nI 3)), (2, .int x), (3, .int y)]) [0, 1, 2, 3, 4] rfl ?_
        have hh := ih (k + 1) (by omega)
        rw [← va_fill (k := k) (f := fun j => ntF (md j)) (x := md k + _) (by unfold ntF; rw [if_pos c32, if_pos c48]), ← va_fill (k := k) (f := fun _ => (-1 : Int32)) (x := -1) rfl] at hh
        exact hh
      · refine a_iconstN (a := 1) dM_does_51 (by decide) ?_
        refine a_goto (tgt := 56) dM_does_52 (by decide) ?_
        refine a_iadd dM_does_56 ?_
        refine a_iastN (a := k) dM_does_57 ly_107 (by omega) (by omega) (by decide) ?_
        rw [crR_md]
        refine a_aload_n 1 dM_does_58 rfl rfl ?_
        refine a_geta (r := 108) dM_does_59 fl12_47 rfl ly_95 (by omega) (rf_95_28 hR) ?_
        refine a_iload 0 dM_does_62 rfl ?_
        refine a_iconst (v := -1) dM_does_64 (by decide) ?_
        refine a_iastN (a := k) dM_does_65 ly_108 (by omega) (by omega) (by decide) ?_
        rw [crR_ls]
        refine a_iincN (lv' := [(4, .int (nI (k + 1))), (0, .ref 95), (1, .int (nI 3)), (2, .int x), (3, .int y)]) (j := 0) dM_does_66 rfl (by decide) rfl ?_
        refine a_goto (tgt := 8) dM_does_69 (by decide) ?_
        refine a_locs (lv' := [(4, .int (nI (k + 1))), (0, .ref 95), (1, .int (nI 3)), (2, .int x), (3, .int y)]) [0, 1, 2, 3, 4] rfl ?_
        have hh := ih (k + 1) (by omega)
        rw [← va_fill (k := k) (f := fun j => ntF (md j)) (x := md k + _) (by unfold ntF; rw [if_pos c32, if_neg c48]), ← va_fill (k := k) (f := fun _ => (-1 : Int32)) (x := -1) rfl] at hh
        exact hh
    · refine a_iconst (v := -1) dM_does_35 (by decide) ?_
      refine a_goto (tgt := 56) dM_does_36 (by decide) ?_
      refine a_iadd dM_does_56 ?_
      refine a_iastN (a := k) dM_does_57 ly_107 (by omega) (by omega) (by decide) ?_
      rw [crR_md]
      refine a_aload_n 1 dM_does_58 rfl rfl ?_
      refine a_geta (r := 108) dM_does_59 fl12_47 rfl ly_95 (by omega) (rf_95_28 hR) ?_
      refine a_iload 0 dM_does_62 rfl ?_
      refine a_iconst (v := -1) dM_does_64 (by decide) ?_
      refine a_iastN (a := k) dM_does_65 ly_108 (by omega) (by omega) (by decide) ?_
      rw [crR_ls]
      refine a_iincN (lv' := [(4, .int (nI (k + 1))), (0, .ref 95), (1, .int (nI 3)), (2, .int x), (3, .int y)]) (j := 0) dM_does_66 rfl (by decide) rfl ?_
      refine a_goto (tgt := 8) dM_does_69 (by decide) ?_
      refine a_locs (lv' := [(4, .int (nI (k + 1))), (0, .ref 95), (1, .int (nI 3)), (2, .int x), (3, .int y)]) [0, 1, 2, 3, 4] rfl ?_
      have hh := ih (k + 1) (by omega)
      rw [← va_fill (k := k) (f := fun j => ntF (md j)) (x := md k + _) (by unfold ntF; rw [if_neg c32]), ← va_fill (k := k) (f := fun _ => (-1 : Int32)) (x := -1) rfl] at hh
      exact hh
theorem c_M_does3 {S : Nat × (Nat → Int32)} {d n : Nat} {I : mI} {J : mJ} {R : mR} {md ls cm : Nat → Int32} {ni le sl dn fa id0 : Int32}  (hn : 122 ≤ n) (hR : m_fin R) {x y : Int32} : RUN S (d + 6) YM_does [.ref 95, .int (nI 3), .int x, .int y] (crR I md ls cm ni le sl dn fa id0) J R n (some (.int 1)) (crR I (m_fill (fun j => ntF (md j)) md 6) (m_fill (fun _ => -1) ls 6) cm (ni + 1) le sl dn fa id0) J R n := by
  show AW S _ YM_does n n _ 0 [(0, .ref 95), (1, .int (nI 3)), (2, .int x), (3, .int y)] [] (crR I md ls cm ni le sl dn fa id0) J R n
  refine a_iload_n 1 dM_does_0 rfl rfl ?_
  refine a_iconstN (a := 3) dM_does_1 (by decide) ?_
  refine a_icmp_neN (tgt := 84) dM_does_2 (by decide) (by omega) (by omega) (fun c => False.elim (c rfl)) (fun _ => ?_)
  refine a_iconstN (a := 0) dM_does_5 (by decide) ?_
  refine a_istore (lv' := [(4, .int (nI 0)), (0, .ref 95), (1, .int (nI 3)), (2, .int x), (3, .int y)]) dM_does_6 (by decide) rfl ?_
  have hh := l_M_night (S := S) (d := d) (I := I) (J := J) (md := md) (ls := ls) (cm := cm) (ni := ni) (le := le) (sl := sl) (dn := dn) (fa := fa) (id0 := id0) (Q := m_res (some (.int 1)) (crR I (m_fill (fun j => ntF (md j)) md 6) (m_fill (fun _ => -1) ls 6) cm (ni + 1) le sl dn fa id0) J R) (x := x) (y := y) hn hR ⟨rfl, rfl, rfl, rfl⟩ 6 0 rfl
  rw [m_fill_0, m_fill_0] at hh
  exact hh
