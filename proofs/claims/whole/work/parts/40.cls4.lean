theorem l_Arrays_fill {S : Nat × (Nat → Int32)} {d n : Nat} {I : mI} {J : mJ} {R : mR} {a N : Nat} {x : Int32} (hla : m_lay a = (50, N)) (han : a < n) (hN : N < 2 ^ 31)  {Q : Option Value → mI → mJ → mR → Prop} (hQ : Q none (m_row I a (m_fill (fun _ => x) (I a) N)) J R) : ∀ m k, k + m = N → AW S d YArrays_fill n n Q 5 [(2, .int (nI k)), (0, .ref a), (1, .int x), (3, .int (nI N))] [] (m_row I a (m_fill (fun _ => x) (I a) k)) J R n := by
  intro m
  induction m with
  | zero =>
    intro k hk
    rw [show k = N by omega]
    refine a_iload_n 0 dArrays_fill_5 rfl rfl ?_
    refine a_iload_n 3 dArrays_fill_6 rfl rfl ?_
    refine a_icmp_geN (tgt := 20) dArrays_fill_7 (by decide) (by omega) (by omega) (fun _ => ?_) (fun c => False.elim (by omega))
    exact a_vret dArrays_fill_20 rfl hQ
  | succ m ih =>
    intro k hk
    refine a_iload_n 0 dArrays_fill_5 rfl rfl ?_
    refine a_iload_n 3 dArrays_fill_6 rfl rfl ?_
    refine a_icmp_geN (tgt := 20) dArrays_fill_7 (by decide) (by omega) (by omega) (fun c => False.elim (by omega)) (fun _ => ?_)
    refine a_aload_n 1 dArrays_fill_10 rfl rfl ?_
    refine a_iload_n 0 dArrays_fill_11 rfl rfl ?_
    refine a_iload_n 2 dArrays_fill_12 rfl rfl ?_
    refine a_iastN (a := k) dArrays_fill_13 hla (by omega) (by omega) (by omega) ?_
    refine a_iincN (lv' := [(2, .int (nI (k + 1))), (0, .ref a), (1, .int x), (3, .int (nI N))]) (j := 0) dArrays_fill_14 rfl (by decide) rfl ?_
    refine a_goto (tgt := 5) dArrays_fill_17 (by decide) ?_
    refine a_locs (lv' := [(2, .int (nI (k + 1))), (0, .ref a), (1, .int x), (3, .int (nI N))]) [0, 1, 2, 3] rfl ?_
    have hh := ih (k + 1) (by omega)
    rw [← m_fill_s, ← m_up_r] at hh
    exact hh
theorem c_Arrays_fill {S : Nat × (Nat → Int32)} {d n : Nat} {I : mI} {J : mJ} {R : mR} {a N : Nat} {x : Int32} (hla : m_lay a = (50, N)) (han : a < n) (hN : N < 2 ^ 31)  : RUN S d YArrays_fill [.ref a, .int x] I J R n none (m_row I a (m_fill (fun _ => x) (I a) N)) J R n := by
  show AW S _ YArrays_fill n n _ 0 [(0, .ref a), (1, .int x)] [] I J R n
  refine a_iconstN (a := 0) dArrays_fill_0 (by decide) ?_
  refine a_istore_n (lv' := [(2, .int (nI 0)), (0, .ref a), (1, .int x)]) dArrays_fill_1 rfl (by decide) rfl ?_
  refine a_aload_n 1 dArrays_fill_2 rfl rfl ?_
  refine a_aleni (v := nI N) dArrays_fill_3 hla (by omega) rfl ?_
  refine a_istore_n (lv' := [(3, .int (nI N)), (2, .int (nI 0)), (0, .ref a), (1, .int x)]) dArrays_fill_4 rfl (by decide) rfl ?_
  have hh := l_Arrays_fill (S := S) (d := d) (J := J) (R := R) (I := I) (x := x) hla han hN (Q := m_res none (m_row I a (m_fill (fun _ => x) (I a) N)) J R) ⟨rfl, rfl, rfl, rfl⟩ N 0 (by omega)
  rw [m_fill_0, m_row_self] at hh
  refine a_locs (lv' := [(2, .int (nI 0)), (0, .ref a), (1, .int x), (3, .int (nI N))]) [1, 2, 3, 0] rfl ?_
  exact hh
def cmpF (x y : Int32) : Int32 := if y ≤ x then (if x = y then 0 else 1) else -1
theorem c_Integer_compare {S : Nat × (Nat → Int32)} {d n : Nat} {I : mI} {J : mJ} {R : mR} {x y : Int32} : RUN S d YInteger_compare [.int x, .int y] I J R n (some (.int (cmpF x y))) I J R n := by
  show AW S _ YInteger_compare n n _ 0 [(0, .int x), (1, .int y)] [] I J R n
  refine a_iload_n 0 dInteger_compare_0 rfl rfl ?_
  refine a_iload_n 1 dInteger_compare_1 rfl rfl ?_
  refine a_icmp_ge (tgt := 9) dInteger_compare_2 (by decide) (fun c2 => ?_) (fun c2 => ?_)
  · refine a_iload_n 0 dInteger_compare_9 rfl rfl ?_
    refine a_iload_n 1 dInteger_compare_10 rfl rfl ?_
    refine a_icmp_ne (tgt := 18) dInteger_compare_11 (by decide) (fun c11 => ?_) (fun c11 => ?_)
    · refine a_iconst (v := 1) dInteger_compare_18 (by decide) ?_
      exact a_iret dInteger_compare_19 rfl ⟨by unfold cmpF; rw [if_pos c2, if_neg c11], rfl, rfl, rfl⟩
    · refine a_iconst (v := 0) dInteger_compare_14 (by decide) ?_
      refine a_goto (tgt := 19) dInteger_compare_15 (by decide) ?_
      exact a_iret dInteger_compare_19 rfl ⟨by unfold cmpF; rw [if_pos c2, if_pos c11], rfl, rfl, rfl⟩
  · refine a_iconst (v := -1) dInteger_compare_5 (by decide) ?_
    refine a_goto (tgt := 19) dInteger_compare_6 (by decide) ?_
    exact a_iret dInteger_compare_19 rfl ⟨by unfold cmpF; rw [if_neg c2], rfl, rfl, rfl⟩
def ntC (x : Int32) : Int32 := x - cmpF x (nI 10)
theorem ntC_F (x : Int32) : ntC x = ntF x := by
  unfold ntC ntF cmpF
  by_cases h1 : nI 10 ≤ x
  · rw [if_pos h1]
    by_cases h2 : x = nI 10
    · rw [if_pos h2, if_pos (by rw [h2]; exact Int32.le_refl _), if_pos h1]
      show x - 0 = x + 0
      rw [Int32.sub_zero, Int32.add_zero]
    · rw [if_neg h2, if_neg (fun c => h2 (Int32.le_antisymm c h1))]
      show x - 1 = x + -1
      rw [Int32.sub_eq_add_neg]
  · rw [if_neg h1, if_pos (Int32.le_of_lt (Int32.not_le.mp h1)), if_neg h1]
    show x - -1 = x + 1
    rw [Int32.sub_eq_add_neg]
    rfl
/-- the lowest mood and whose it is, behind a look at the first k houses -/
def lwN (md : Nat → Int32) (p : Int32 × Int32) : Nat → Int32 × Int32
  | 0 => p
  | k + 1 => if md k < (lwN md p k).1 then (md k, nI k) else if md k = (lwN md p k).1 then (if (lwN md p k).2 ≤ nI k then lwN md p k else (md k, nI k)) else lwN md p k
def cf60 (f : Nat → Int32) (ni le sl dn fa id0 gr lo : Int32) : Nat → Int32 := fun k => if k = 3 then ni else if k = 2 then le else if k = 4 then sl else if k = 5 then dn else if k = 11 then fa else if k = 12 then id0 else if k = 9 then gr else if k = 10 then lo else f k
def cr60 (I : mI) (md ls cm : Nat → Int32) (ni le sl dn fa id0 gr lo : Int32) : mI := m_row (m_row (m_row (m_row I 60 (cf60 (I 60) ni le sl dn fa id0 gr lo)) 61 md) 62 ls) 63 cm
section Cr60
variable {I : mI} {md ls cm : Nat → Int32} {ni le sl dn fa id0 gr lo : Int32} {h : Nat} {x : Int32}
theorem cr60_md : m_up (cr60 I md ls cm ni le sl dn fa id0 gr lo) 61 h x = cr60 I (va_up md h x) ls cm ni le sl dn fa id0 gr lo := by
  unfold cr60; rw [m_up_comm (by decide), m_up_comm (by decide), m_up_r]
theorem cr60_ls : m_up (cr60 I md ls cm ni le sl dn fa id0 gr lo) 62 h x = cr60 I md (va_up ls h x) cm ni le sl dn fa id0 gr lo := by
  unfold cr60; rw [m_up_comm (by decide), m_up_r]
theorem cr60_cm : m_up (cr60 I md ls cm ni le sl dn fa id0 gr lo) 63 h x = cr60 I md ls (va_up cm h x) ni le sl dn fa id0 gr lo := by
  unfold cr60; rw [m_up_r]
theorem cr60_rmd {f : Nat → Int32} : m_row (cr60 I md ls cm ni le sl dn fa id0 gr lo) 61 f = cr60 I f ls cm ni le sl dn fa id0 gr lo := by
  funext i; unfold cr60 m_row; by_cases h3 : i = 63 <;> by_cases h2 : i = 62 <;> by_cases h1 : i = 61 <;> simp [h1, h2, h3] <;> omega
theorem cr60_rls {f : Nat → Int32} : m_row (cr60 I md ls cm ni le sl dn fa id0 gr lo) 62 f = cr60 I md f cm ni le sl dn fa id0 gr lo := by
  funext i; unfold cr60 m_row; by_cases h3 : i = 63 <;> by_cases h2 : i = 62 <;> simp [h2, h3] <;> omega
theorem cr60_rcm {f : Nat → Int32} : m_row (cr60 I md ls cm ni le sl dn fa id0 gr lo) 63 f = cr60 I md ls f ni le sl dn fa id0 gr lo := by
  unfold cr60; rw [m_row_row]
theorem cr60_f3 : m_up (cr60 I md ls cm ni le sl dn fa id0 gr lo) 60 3 x = cr60 I md ls cm x le sl dn fa id0 gr lo := by
  unfold cr60
  rw [m_up_comm (by decide), m_up_comm (by decide), m_up_comm (by decide), m_up_r]
  congr 4
  funext k
  unfold va_up cf60
  by_cases hk : k = 3
  · subst hk; rfl
  · rw [if_neg hk]
    repeat' split
    all_goals (first | rfl | omega)
theorem cr60_f2 : m_up (cr60 I md ls cm ni le sl dn fa id0 gr lo) 60 2 x = cr60 I md ls cm ni x sl dn fa id0 gr lo := by
  unfold cr60
  rw [m_up_comm (by decide), m_up_comm (by decide), m_up_comm (by decide), m_up_r]
  congr 4
  funext k
  unfold va_up cf60
  by_cases hk : k = 2
  · subst hk; rfl
  · rw [if_neg hk]
    repeat' split
    all_goals (first | rfl | omega)
theorem cr60_f4 : m_up (cr60 I md ls cm ni le sl dn fa id0 gr lo) 60 4 x = cr60 I md ls cm ni le x dn fa id0 gr lo := by
  unfold cr60
  rw [m_up_comm (by decide), m_up_comm (by decide), m_up_comm (by decide), m_up_r]
  congr 4
  funext k
  unfold va_up cf60
  by_cases hk : k = 4
  · subst hk; rfl
  · rw [if_neg hk]
    repeat' split
    all_goals (first | rfl | omega)
theorem cr60_f5 : m_up (cr60 I md ls cm ni le sl dn fa id0 gr lo) 60 5 x = cr60 I md ls cm ni le sl x fa id0 gr lo := by
  unfold cr60
  rw [m_up_comm (by decide), m_up_comm (by decide), m_up_comm (by decide), m_up_r]
  congr 4
  funext k
  unfold va_up cf60
  by_cases hk : k = 5
  · subst hk; rfl
  · rw [if_neg hk]
    repeat' split
    all_goals (first | rfl | omega)
theorem cr60_f11 : m_up (cr60 I md ls cm ni le sl dn fa id0 gr lo) 60 11 x = cr60 I md ls cm ni le sl dn x id0 gr lo := by
  unfold cr60
  rw [m_up_comm (by decide), m_up_comm (by decide), m_up_comm (by decide), m_up_r]
  congr 4
  funext k
  unfold va_up cf60
  by_cases hk : k = 11
  · subst hk; rfl
  · rw [if_neg hk]
    repeat' split
    all_goals (first | rfl | omega)
theorem cr60_f12 : m_up (cr60 I md ls cm ni le sl dn fa id0 gr lo) 60 12 x = cr60 I md ls cm ni le sl dn fa x gr lo := by
  unfold cr60
  rw [m_up_comm (by decide), m_up_comm (by decide), m_up_comm (by decide), m_up_r]
  congr 4
  funext k
  unfold va_up cf60
  by_cases hk : k = 12
  · subst hk; rfl
  · rw [if_neg hk]
    repeat' split
    all_goals (first | rfl | omega)
theorem cr60_f9 : m_up (cr60 I md ls cm ni le sl dn fa id0 gr lo) 60 9 x = cr60 I md ls cm ni le sl dn fa id0 x lo := by
  unfold cr60
  rw [m_up_comm (by decide), m_up_comm (by decide), m_up_comm (by decide), m_up_r]
  congr 4
  funext k
  unfold va_up cf60
  by_cases hk : k = 9
  · subst hk; rfl
  · rw [if_neg hk]
    repeat' split
    all_goals (first | rfl | omega)
theorem cr60_f10 : m_up (cr60 I md ls cm ni le sl dn fa id0 gr lo) 60 10 x = cr60 I md ls cm ni le sl dn fa id0 gr x := by
  unfold cr60
  rw [m_up_comm (by decide), m_up_comm (by decide), m_up_comm (by decide), m_up_r]
  congr 4
  funext k
  unfold va_up cf60
  by_cases hk : k = 10
  · subst hk; rfl
  · rw [if_neg hk]
    repeat' split
    all_goals (first | rfl | omega)
theorem cr60_1 : cr60 I md ls cm ni le sl dn fa id0 gr lo 61 = md := by unfold cr60; rw [m_row_ne (by decide), m_row_ne (by decide), m_row_eq]
theorem cr60_2 : cr60 I md ls cm ni le sl dn fa id0 gr lo 62 = ls := by unfold cr60; rw [m_row_ne (by decide), m_row_eq]
theorem cr60_3 : cr60 I md ls cm ni le sl dn fa id0 gr lo 63 = cm := by unfold cr60; rw [m_row_eq]
theorem cr60_o {a : Nat} (h : a ≠ 60) (h7 : a ≠ 61) (h8 : a ≠ 62) (h9 : a ≠ 63) : cr60 I md ls cm ni le sl dn fa id0 gr lo a = I a := by
  unfold cr60; rw [m_row_ne h9, m_row_ne h8, m_row_ne h7, m_row_ne h]
theorem off_60 {o : Nat} (ho : o ∈ m_offs) (k : Nat) (hk : k ≤ 8) : o + k ≠ 60 ∧ o + k ≠ 61 ∧ o + k ≠ 62 ∧ o + k ≠ 63 := (show ∀ o ∈ m_offs, ∀ k, k ≤ 8 → (o + k ≠ 60 ∧ o + k ≠ 61 ∧ o + k ≠ 62 ∧ o + k ≠ 63) by decide +kernel) o ho k hk
theorem cr60_off {o : Nat} (ho : o ∈ m_offs) (k : Nat) (hk : k ≤ 8) : cr60 I md ls cm ni le sl dn fa id0 gr lo (o + k) = I (o + k) := by
  obtain ⟨h1, h2, h3, h4⟩ := off_60 ho k hk
  exact cr60_o h1 h2 h3 h4
theorem cr60_off0 {o : Nat} (ho : o ∈ m_offs) : cr60 I md ls cm ni le sl dn fa id0 gr lo o = I o := cr60_off ho 0 (by decide)
theorem cr60_dsO {o : Nat} (ho : o ∈ m_offs) : dsO (cr60 I md ls cm ni le sl dn fa id0 gr lo) o = dsO I o := by
  funext l x; unfold dsO; rw [cr60_off ho 5 (by decide), cr60_off ho 3 (by decide), cr60_off ho 8 (by decide)]
end Cr60
def cf88 (f : Nat → Int32) (ni le sl dn fa id0 gr lo : Int32) : Nat → Int32 := fun k => if k = 3 then ni else if k = 2 then le else if k = 4 then sl else if k = 5 then dn else if k = 11 then fa else if k = 12 then id0 else if k = 9 then gr else if k = 10 then lo else f k
def cr88 (I : mI) (md ls cm : Nat → Int32) (ni le sl dn fa id0 gr lo : Int32) : mI := m_row (m_row (m_row (m_row I 88 (cf88 (I 88) ni le sl dn fa id0 gr lo)) 89 md) 90 ls) 91 cm
section Cr88
variable {I : mI} {md ls cm : Nat → Int32} {ni le sl dn fa id0 gr lo : Int32} {h : Nat} {x : Int32}
theorem cr88_md : m_up (cr88 I md ls cm ni le sl dn fa id0 gr lo) 89 h x = cr88 I (va_up md h x) ls cm ni le sl dn fa id0 gr lo := by
  unfold cr88; rw [m_up_comm (by decide), m_up_comm (by decide), m_up_r]
theorem cr88_ls : m_up (cr88 I md ls cm ni le sl dn fa id0 gr lo) 90 h x = cr88 I md (va_up ls h x) cm ni le sl dn fa id0 gr lo := by
  unfold cr88; rw [m_up_comm (by decide), m_up_r]
theorem cr88_cm : m_up (cr88 I md ls cm ni le sl dn fa id0 gr lo) 91 h x = cr88 I md ls (va_up cm h x) ni le sl dn fa id0 gr lo := by
  unfold cr88; rw [m_up_r]
theorem cr88_rmd {f : Nat → Int32} : m_row (cr88 I md ls cm ni le sl dn fa id0 gr lo) 89 f = cr88 I f ls cm ni le sl dn fa id0 gr lo := by
  funext i; unfold cr88 m_row; by_cases h3 : i = 91 <;> by_cases h2 : i = 90 <;> by_cases h1 : i = 89 <;> simp [h1, h2, h3] <;> omega
theorem cr88_rls {f : Nat → Int32} : m_row (cr88 I md ls cm ni le sl dn fa id0 gr lo) 90 f = cr88 I md f cm ni le sl dn fa id0 gr lo := by
  funext i; unfold cr88 m_row; by_cases h3 : i = 91 <;> by_cases h2 : i = 90 <;> simp [h2, h3] <;> omega
theorem cr88_rcm {f : Nat → Int32} : m_row (cr88 I md ls cm ni le sl dn fa id0 gr lo) 91 f = cr88 I md ls f ni le sl dn fa id0 gr lo := by
  unfold cr88; rw [m_row_row]
theorem cr88_f3 : m_up (cr88 I md ls cm ni le sl dn fa id0 gr lo) 88 3 x = cr88 I md ls cm x le sl dn fa id0 gr lo := by
  unfold cr88
  rw [m_up_comm (by decide), m_up_comm (by decide), m_up_comm (by decide), m_up_r]
  congr 4
  funext k
  unfold va_up cf88
  by_cases hk : k = 3
  · subst hk; rfl
  · rw [if_neg hk]
    repeat' split
    all_goals (first | rfl | omega)
theorem cr88_f2 : m_up (cr88 I md ls cm ni le sl dn fa id0 gr lo) 88 2 x = cr88 I md ls cm ni x sl dn fa id0 gr lo := by
  unfold cr88
  rw [m_up_comm (by decide), m_up_comm (by decide), m_up_comm (by decide), m_up_r]
  congr 4
  funext k
  unfold va_up cf88
  by_cases hk : k = 2
  · subst hk; rfl
  · rw [if_neg hk]
    repeat' split
    all_goals (first | rfl | omega)
theorem cr88_f4 : m_up (cr88 I md ls cm ni le sl dn fa id0 gr lo) 88 4 x = cr88 I md ls cm ni le x dn fa id0 gr lo := by
  unfold cr88
  rw [m_up_comm (by decide), m_up_comm (by decide), m_up_comm (by decide), m_up_r]
  congr 4
  funext k
  unfold va_up cf88
  by_cases hk : k = 4
  · subst hk; rfl
  · rw [if_neg hk]
    repeat' split
    all_goals (first | rfl | omega)
theorem cr88_f5 : m_up (cr88 I md ls cm ni le sl dn fa id0 gr lo) 88 5 x = cr88 I md ls cm ni le sl x fa id0 gr lo := by
  unfold cr88
  rw [m_up_comm (by decide), m_up_comm (by decide), m_up_comm (by decide), m_up_r]
  congr 4
  funext k
  unfold va_up cf88
  by_cases hk : k = 5
  · subst hk; rfl
  · rw [if_neg hk]
    repeat' split
    all_goals (first | rfl | omega)
theorem cr88_f11 : m_up (cr88 I md ls cm ni le sl dn fa id0 gr lo) 88 11 x = cr88 I md ls cm ni le sl dn x id0 gr lo := by
  unfold cr88
  rw [m_up_comm (by decide), m_up_comm (by decide), m_up_comm (by decide), m_up_r]
  congr 4
  funext k
  unfold va_up cf88
  by_cases hk : k = 11
  · subst hk; rfl
  · rw [if_neg hk]
    repeat' split
    all_goals (first | rfl | omega)
theorem cr88_f12 : m_up (cr88 I md ls cm ni le sl dn fa id0 gr lo) 88 12 x = cr88 I md ls cm ni le sl dn fa x gr lo := by
  unfold cr88
  rw [m_up_comm (by decide), m_up_comm (by decide), m_up_comm (by decide), m_up_r]
  congr 4
  funext k
  unfold va_up cf88
  by_cases hk : k = 12
  · subst hk; rfl
  · rw [if_neg hk]
    repeat' split
    all_goals (first | rfl | omega)
theorem cr88_f9 : m_up (cr88 I md ls cm ni le sl dn fa id0 gr lo) 88 9 x = cr88 I md ls cm ni le sl dn fa id0 x lo := by
  unfold cr88
  rw [m_up_comm (by decide), m_up_comm (by decide), m_up_comm (by decide), m_up_r]
  congr 4
  funext k
  unfold va_up cf88
  by_cases hk : k = 9
  · subst hk; rfl
  · rw [if_neg hk]
    repeat' split
    all_goals (first | rfl | omega)
theorem cr88_f10 : m_up (cr88 I md ls cm ni le sl dn fa id0 gr lo) 88 10 x = cr88 I md ls cm ni le sl dn fa id0 gr x := by
  unfold cr88
  rw [m_up_comm (by decide), m_up_comm (by decide), m_up_comm (by decide), m_up_r]
  congr 4
  funext k
  unfold va_up cf88
  by_cases hk : k = 10
  · subst hk; rfl
  · rw [if_neg hk]
    repeat' split
    all_goals (first | rfl | omega)
theorem cr88_1 : cr88 I md ls cm ni le sl dn fa id0 gr lo 89 = md := by unfold cr88; rw [m_row_ne (by decide), m_row_ne (by decide), m_row_eq]
theorem cr88_2 : cr88 I md ls cm ni le sl dn fa id0 gr lo 90 = ls := by unfold cr88; rw [m_row_ne (by decide), m_row_eq]
theorem cr88_3 : cr88 I md ls cm ni le sl dn fa id0 gr lo 91 = cm := by unfold cr88; rw [m_row_eq]
theorem cr88_o {a : Nat} (h : a ≠ 88) (h7 : a ≠ 89) (h8 : a ≠ 90) (h9 : a ≠ 91) : cr88 I md ls cm ni le sl dn fa id0 gr lo a = I a := by
  unfold cr88; rw [m_row_ne h9, m_row_ne h8, m_row_ne h7, m_row_ne h]
theorem off_88 {o : Nat} (ho : o ∈ m_offs) (k : Nat) (hk : k ≤ 8) : o + k ≠ 88 ∧ o + k ≠ 89 ∧ o + k ≠ 90 ∧ o + k ≠ 91 := (show ∀ o ∈ m_offs, ∀ k, k ≤ 8 → (o + k ≠ 88 ∧ o + k ≠ 89 ∧ o + k ≠ 90 ∧ o + k ≠ 91) by decide +kernel) o ho k hk
theorem cr88_off {o : Nat} (ho : o ∈ m_offs) (k : Nat) (hk : k ≤ 8) : cr88 I md ls cm ni le sl dn fa id0 gr lo (o + k) = I (o + k) := by
  obtain ⟨h1, h2, h3, h4⟩ := off_88 ho k hk
  exact cr88_o h1 h2 h3 h4
theorem cr88_off0 {o : Nat} (ho : o ∈ m_offs) : cr88 I md ls cm ni le sl dn fa id0 gr lo o = I o := cr88_off ho 0 (by decide)
theorem cr88_dsO {o : Nat} (ho : o ∈ m_offs) : dsO (cr88 I md ls cm ni le sl dn fa id0 gr lo) o = dsO I o := by
  funext l x; unfold dsO; rw [cr88_off ho 5 (by decide), cr88_off ho 3 (by decide), cr88_off ho 8 (by decide)]
end Cr88
theorem l_noteLow {S : Nat × (Nat → Int32)} {d n : Nat} {I : mI} {J : mJ} {R : mR} {md ls cm : Nat → Int32} {ni le sl dn fa id0 gr lo : Int32}  (hn : 122 ≤ n) (hR : m_fin R) {o nh nl : Nat} (ho : o ∈ m_offs) (hr : offR R o) (hon : o + 8 < n) (hRo : R 60 0 = some o) (hh : I o 0 = nI nh) (hnh : nh ≤ 6) (hl : I o 1 = nI nl) (hnl : nl ≤ 10)  {Q : Option Value → mI → mJ → mR → Prop} (hQ : Q none (cr60 I md ls cm ni le sl dn fa id0 (lwN md (lo, gr) nh).2 (lwN md (lo, gr) nh).1) J R) : ∀ m k, k + m = nh → AW S d YCourse_noteLow n n Q 2 [(1, .int (nI k)), (0, .ref 60)] [] (cr60 I md ls cm ni le sl dn fa id0 (lwN md (lo, gr) k).2 (lwN md (lo, gr) k).1) J R n := by
  intro m
  induction m with
  | zero =>
    intro k hk9
    rw [show k = nh by omega]
    refine a_iload_n 0 dCourse_noteLow_2 rfl rfl ?_
    refine a_aload_n 1 dCourse_noteLow_3 rfl rfl ?_
    refine a_geta (r := o) dCourse_noteLow_4 fl2_21 rfl ly_60 (by omega) hRo ?_
    refine a_geti dCourse_noteLow_7 fl2_108 rfl (of_l0 ho) (by omega) ?_
    rw [show (cr60 I md ls cm ni le sl dn fa id0 (lwN md (lo, gr) nh).2 (lwN md (lo, gr) nh).1) o 0 = (nI nh) from (by rw [cr60_off0 ho]; exact hh)]
    refine a_icmp_geN (tgt := 68) dCourse_noteLow_10 (by decide) (by omega) (by omega) (fun _ => ?_) (fun c => False.elim (by omega))
    exact a_vret dCourse_noteLow_68 rfl hQ
  | succ m ih =>
    intro k hk9
    refine a_iload_n 0 dCourse_noteLow_2 rfl rfl ?_
    refine a_aload_n 1 dCourse_noteLow_3 rfl rfl ?_
    refine a_geta (r := o) dCourse_noteLow_4 fl2_21 rfl ly_60 (by omega) hRo ?_
    refine a_geti dCourse_noteLow_7 fl2_108 rfl (of_l0 ho) (by omega) ?_
    rw [show (cr60 I md ls cm ni le sl dn fa id0 (lwN md (lo, gr) k).2 (lwN md (lo, gr) k).1) o 0 = (nI nh) from (by rw [cr60_off0 ho]; exact hh)]
    refine a_icmp_geN (tgt := 68) dCourse_noteLow_10 (by decide) (by omega) (by omega) (fun c => False.elim (by omega)) (fun _ => ?_)
    refine a_aload_n 1 dCourse_noteLow_13 rfl rfl ?_
    refine a_geta (r := 61) dCourse_noteLow_14 fl2_9 rfl ly_60 (by omega) (rf_60_6 hR) ?_
    refine a_iload_n 0 dCourse_noteLow_17 rfl rfl ?_
    refine a_ialdN (a := k) dCourse_noteLow_18 ly_61 (by omega) (by omega) (by decide) ?_
    rw [show (cr60 I md ls cm ni le sl dn fa id0 (lwN md (lo, gr) k).2 (lwN md (lo, gr) k).1) 61 k = md k from (by rw [cr60_1])]
    refine a_aload_n 1 dCourse_noteLow_19 rfl rfl ?_
    refine a_geti dCourse_noteLow_20 fl2_59 rfl ly_60 (by omega) ?_
    rw [show (cr60 I md ls cm ni le sl dn fa id0 (lwN md (lo, gr) k).2 (lwN md (lo, gr) k).1) 60 10 = (lwN md (lo, gr) k).1 from rfl]
    refine a_icmp_lt (tgt := 47) dCourse_noteLow_23 (by decide) (fun c23 => ?_) (fun c23 => ?_)
    · refine a_aload_n 1 dCourse_noteLow_47 rfl rfl ?_
      refine a_aload_n 1 dCourse_noteLow_48 rfl rfl ?_
      refine a_geta (r := 61) dCourse_noteLow_49 fl2_9 rfl ly_60 (by omega) (rf_60_6 hR) ?_
      refine a_iload_n 0 dCourse_noteLow_52 rfl rfl ?_
      refine a_ialdN (a := k) dCourse_noteLow_53 ly_61 (by omega) (by omega) (by decide) ?_
      rw [show (cr60 I md ls cm ni le sl dn fa id0 (lwN md (lo, gr) k).2 (lwN md (lo, gr) k).1) 61 k = md k from (by rw [cr60_1])]
      refine a_puti dCourse_noteLow_54 fl2_59 rfl ly_60 (by omega) ?_
      rw [cr60_f10]
      refine a_aload_n 1 dCourse_noteLow_57 rfl rfl ?_
      refine a_iload_n 0 dCourse_noteLow_58 rfl rfl ?_
      refine a_puti dCourse_noteLow_59 fl2_56 rfl ly_60 (by omega) ?_
      rw [cr60_f9]
      refine a_iincN (lv' := [(1, .int (nI (k + 1))), (0, .ref 60)]) (j := 0) dCourse_noteLow_62 rfl (by decide) rfl ?_
      refine a_goto (tgt := 2) dCourse_noteLow_65 (by decide) ?_
      refine a_locs (lv' := [(1, .int (nI (k + 1))), (0, .ref 60)]) [0, 1] rfl ?_
      have hh := ih (k + 1) (by omega)
      rw [show lwN md (lo, gr) (k + 1) = _ from (by unfold lwN; rw [if_pos c23])] at hh
      exact hh
    · refine a_aload_n 1 dCourse_noteLow_26 rfl rfl ?_
      refine a_geta (r := 61) dCourse_noteLow_27 fl2_9 rfl ly_60 (by omega) (rf_60_6 hR) ?_
      refine a_iload_n 0 dCourse_noteLow_30 rfl rfl ?_
      refine a_ialdN (a := k) dCourse_noteLow_31 ly_61 (by omega) (by omega) (by decide) ?_
      rw [show (cr60 I md ls cm ni le sl dn fa id0 (lwN md (lo, gr) k).2 (lwN md (lo, gr) k).1) 61 k = md k from (by rw [cr60_1])]
      refine a_aload_n 1 dCourse_noteLow_32 rfl rfl ?_
      refine a_geti dCourse_noteLow_33 fl2_59 rfl ly_60 (by omega) ?_
      rw [show (cr60 I md ls cm ni le sl dn fa id0 (lwN md (lo, gr) k).2 (lwN md (lo, gr) k).1) 60 10 = (lwN md (lo, gr) k).1 from rfl]
      refine a_icmp_ne (tgt := 62) dCourse_noteLow_36 (by decide) (fun c36 => ?_) (fun c36 => ?_)
      · refine a_iincN (lv' := [(1, .int (nI (k + 1))), (0, .ref 60)]) (j := 0) dCourse_noteLow_62 rfl (by decide) rfl ?_
        refine a_goto (tgt := 2) dCourse_noteLow_65 (by decide) ?_
        refine a_locs (lv' := [(1, .int (nI (k + 1))), (0, .ref 60)]) [0, 1] rfl ?_
        have hh := ih (k + 1) (by omega)
        rw [show lwN md (lo, gr) (k + 1) = _ from (by unfold lwN; rw [if_neg c23, if_neg c36])] at hh
        exact hh
      · refine a_iload_n 0 dCourse_noteLow_39 rfl rfl ?_
        refine a_aload_n 1 dCourse_noteLow_40 rfl rfl ?_
        refine a_geti dCourse_noteLow_41 fl2_56 rfl ly_60 (by omega) ?_
        rw [show (cr60 I md ls cm ni le sl dn fa id0 (lwN md (lo, gr) k).2 (lwN md (lo, gr) k).1) 60 9 = (lwN md (lo, gr) k).2 from rfl]
        refine a_icmp_ge (tgt := 62) dCourse_noteLow_44 (by decide) (fun c44 => ?_) (fun c44 => ?_)
        · refine a_iincN (lv' := [(1, .int (nI (k + 1))), (0, .ref 60)]) (j := 0) dCourse_noteLow_62 rfl (by decide) rfl ?_
          refine a_goto (tgt := 2) dCourse_noteLow_65 (by decide) ?_
          refine a_locs (lv' := [(1, .int (nI (k + 1))), (0, .ref 60)]) [0, 1] rfl ?_
          have hh := ih (k + 1) (by omega)
          rw [show lwN md (lo, gr) (k + 1) = _ from (by unfold lwN; rw [if_neg c23, if_pos c36, if_pos c44])] at hh
          exact hh
        · refine a_aload_n 1 dCourse_noteLow_47 rfl rfl ?_
          refine a_aload_n 1 dCourse_noteLow_48 rfl rfl ?_
          refine a_geta (r := 61) dCourse_noteLow_49 fl2_9 rfl ly_60 (by omega) (rf_60_6 hR) ?_
          refine a_iload_n 0 dCourse_noteLow_52 rfl rfl ?_
          refine a_ialdN (a := k) dCourse_noteLow_53 ly_61 (by omega) (by omega) (by decide) ?_
          rw [show (cr60 I md ls cm ni le sl dn fa id0 (lwN md (lo, gr) k).2 (lwN md (lo, gr) k).1) 61 k = md k from (by rw [cr60_1])]
          refine a_puti dCourse_noteLow_54 fl2_59 rfl ly_60 (by omega) ?_
          rw [cr60_f10]
          refine a_aload_n 1 dCourse_noteLow_57 rfl rfl ?_
          refine a_iload_n 0 dCourse_noteLow_58 rfl rfl ?_
          refine a_puti dCourse_noteLow_59 fl2_56 rfl ly_60 (by omega) ?_
          rw [cr60_f9]
          refine a_iincN (lv' := [(1, .int (nI (k + 1))), (0, .ref 60)]) (j := 0) dCourse_noteLow_62 rfl (by decide) rfl ?_
          refine a_goto (tgt := 2) dCourse_noteLow_65 (by decide) ?_
          refine a_locs (lv' := [(1, .int (nI (k + 1))), (0, .ref 60)]) [0, 1] rfl ?_
          have hh := ih (k + 1) (by omega)
          rw [show lwN md (lo, gr) (k + 1) = _ from (by unfold lwN; rw [if_neg c23, if_pos c36, if_neg c44])] at hh
          exact hh
theorem c_noteLow {S : Nat × (Nat → Int32)} {d n : Nat} {I : mI} {J : mJ} {R : mR} {md ls cm : Nat → Int32} {ni le sl dn fa id0 gr lo : Int32}  (hn : 122 ≤ n) (hR : m_fin R) {o nh nl : Nat} (ho : o ∈ m_offs) (hr : offR R o) (hon : o + 8 < n) (hRo : R 60 0 = some o) (hh : I o 0 = nI nh) (hnh : nh ≤ 6) (hl : I o 1 = nI nl) (hnl : nl ≤ 10)  : RUN S d YCourse_noteLow [.ref 60] (cr60 I md ls cm ni le sl dn fa id0 gr lo) J R n none (cr60 I md ls cm ni le sl dn fa id0 (lwN md (lo, gr) nh).2 (lwN md (lo, gr) nh).1) J R n := by
  show AW S _ YCourse_noteLow n n _ 0 [(0, .ref 60)] [] (cr60 I md ls cm ni le sl dn fa id0 gr lo) J R n
  refine a_iconstN (a := 0) dCourse_noteLow_0 (by decide) ?_
  refine a_istore_n (lv' := [(1, .int (nI 0)), (0, .ref 60)]) dCourse_noteLow_1 rfl (by decide) rfl ?_
  exact l_noteLow hn hR ho hr hon hRo hh hnh hl hnl ⟨rfl, rfl, rfl, rfl⟩ nh 0 (by omega)
theorem c_bring {S : Nat × (Nat → Int32)} {d n : Nat} {I : mI} {J : mJ} {R : mR} {md ls cm : Nat → Int32} {ni le sl dn fa id0 gr lo : Int32}  (hn : 122 ≤ n) (hR : m_fin R) {o nh nl : Nat} (ho : o ∈ m_offs) (hr : offR R o) (hon : o + 8 < n) (hRo : R 60 0 = some o) (hh : I o 0 = nI nh) (hnh : nh ≤ 6) (hl : I o 1 = nI nl) (hnl : nl ≤ 10) {l h : Nat} (hl10 : l < nl) (hh6 : h < 6) (hW : WFc I o nl) (hx : kOK (ls h))  : RUN S (d + 1) YCourse_bring [.ref 60, .int (nI l), .int (nI h)] (cr60 I md ls cm ni le sl dn fa id0 gr lo) J R n none (cr60 I (va_up md h (md h + (dsO I o l (ls h)))) (va_up ls h (I (o + 3) l)) (va_up cm h (cm h + 1)) ni (le &&& (1 <<< (nI l &&& 31) ^^^ -1)) sl (dn + (dsO I o l (ls h))) (if (dsO I o l (ls h)) = I (o + 5) l then fa else fa ||| (nI 1 <<< (nI l &&& 31))) (if (dsO I o l (ls h)) = 0 then id0 + 1 else id0) gr lo) J R n := by
  show AW S _ YCourse_bring n n _ 0 [(0, .ref 60), (1, .int (nI l)), (2, .int (nI h))] [] (cr60 I md ls cm ni le sl dn fa id0 gr lo) J R n
  refine a_aload_n 0 dCourse_bring_0 rfl rfl ?_
  refine a_geta (r := o) dCourse_bring_1 fl2_21 rfl ly_60 (by omega) hRo ?_
  refine a_iload_n 1 dCourse_bring_4 rfl rfl ?_
  refine a_aload_n 0 dCourse_bring_5 rfl rfl ?_
  refine a_geta (r := 62) dCourse_bring_6 fl2_15 rfl ly_60 (by omega) (rf_60_7 hR) ?_
  refine a_iload_n 2 dCourse_bring_9 rfl rfl ?_
  refine a_ialdN (a := h) dCourse_bring_10 ly_62 (by omega) (by omega) (by decide) ?_
  rw [show (cr60 I md ls cm ni le sl dn fa id0 gr lo) 62 h = ls h from (by rw [cr60_2])]
  refine a_callV (Q' := m_res (some (.int (dsO I o l (ls h)))) (cr60 I md ls cm ni le sl dn fa id0 gr lo) J R) (as := [.int (nI l), .int (ls h)]) (st := []) dCourse_bring_11 ml2_133 rfl (Nat.le_of_ble_eq_true rfl) (of_l0 ho) rfl rfl (by decide) (by omega) (Nat.le_of_ble_eq_true rfl) rfl (Nat.le_refl _) (Nat.le_refl _) (by obtain ⟨q, hq, e⟩ := hW l (by omega); have h := c_Office_does (S := S) (d := d) (J := J) (I := (cr60 I md ls cm ni le sl dn fa id0 gr lo)) ho hr hon (l := l) (q := q) (by omega) (by rw [cr60_off ho 3 (by decide)]; exact e) hq hx; rw [cr60_dsO ho] at h; exact h) (m_go ?_)
  show AW _ _ _ _ _ _ _ _ [.int (dsO I o l (ls h))] _ _ _ _
  refine a_istore_n (lv' := [(3, .int (dsO I o l (ls h))), (0, .ref 60), (1, .int (nI l)), (2, .int (nI h))]) dCourse_bring_14 rfl (by decide) rfl ?_
  refine a_aload_n 1 dCourse_bring_15 rfl rfl ?_
  refine a_dup dCourse_bring_16 rfl ?_
  refine a_geti dCourse_bring_17 fl2_31 rfl ly_60 (by omega) ?_
  rw [show (cr60 I md ls cm ni le sl dn fa id0 gr lo) 60 2 = le from rfl]
  refine a_iconstN (a := 1) dCourse_bring_20 (by decide) ?_
  refine a_iload_n 2 dCourse_bring_21 rfl rfl ?_
  refine a_ishl dCourse_bring_22 ?_
  refine a_iconst (v := -1) dCourse_bring_23 (by decide) ?_
  refine a_ixor dCourse_bring_24 ?_
  refine a_iand dCourse_bring_25 ?_
  refine a_puti dCourse_bring_26 fl2_31 rfl ly_60 (by omega) ?_
  rw [cr60_f2]
  refine a_aload_n 1 dCourse_bring_29 rfl rfl ?_
  refine a_geta (r := 61) dCourse_bring_30 fl2_9 rfl ly_60 (by omega) (rf_60_6 hR) ?_
  refine a_iload_n 3 dCourse_bring_33 rfl rfl ?_
  refine a_dup2 dCourse_bring_34 rfl rfl ?_
  refine a_ialdN (a := h) dCourse_bring_35 ly_61 (by omega) (by omega) (by decide) ?_
  rw [show (cr60 I md ls cm ni (le &&& (((nI 1) <<< ((nI l) &&& 31)) ^^^ (-1))) sl dn fa id0 gr lo) 61 h = md h from (by rw [cr60_1])]
  refine a_iload_n 0 dCourse_bring_36 rfl rfl ?_
  refine a_iadd dCourse_bring_37 ?_
  refine a_iastN (a := h) dCourse_bring_38 ly_61 (by omega) (by omega) (by decide) ?_
  rw [cr60_md]
  refine a_aload_n 1 dCourse_bring_39 rfl rfl ?_
  refine a_geta (r := 62) dCourse_bring_40 fl2_15 rfl ly_60 (by omega) (rf_60_7 hR) ?_
  refine a_iload_n 3 dCourse_bring_43 rfl rfl ?_
  refine a_aload_n 1 dCourse_bring_44 rfl rfl ?_
  refine a_geta (r := o) dCourse_bring_45 fl2_21 rfl ly_60 (by omega) hRo ?_
  refine a_geta (r := (o + 3)) dCourse_bring_48 fl2_136 rfl (of_l0 ho) (by omega) (hr 2 (by decide)) ?_
  refine a_iload_n 2 dCourse_bring_51 rfl rfl ?_
  refine a_ialdN (a := l) dCourse_bring_52 (of_l3 ho) (by omega) (by omega) (by decide) ?_
  rw [show (cr60 I (va_up md h ((md h) + (dsO I o l (ls h)))) ls cm ni (le &&& (((nI 1) <<< ((nI l) &&& 31)) ^^^ (-1))) sl dn fa id0 gr lo) (o + 3) l = I (o + 3) l from (by rw [cr60_off ho 3 (by decide)])]
  refine a_iastN (a := h) dCourse_bring_53 ly_62 (by omega) (by omega) (by decide) ?_
  rw [cr60_ls]
  refine a_aload_n 1 dCourse_bring_54 rfl rfl ?_
  refine a_geta (r := 63) dCourse_bring_55 fl2_18 rfl ly_60 (by omega) (rf_60_8 hR) ?_
  refine a_iload_n 3 dCourse_bring_58 rfl rfl ?_
  refine a_dup2 dCourse_bring_59 rfl rfl ?_
  refine a_ialdN (a := h) dCourse_bring_60 ly_63 (by omega) (by omega) (by decide) ?_
  rw [show (cr60 I (va_up md h ((md h) + (dsO I o l (ls h)))) (va_up ls h (I (o + 3) l)) cm ni (le &&& (((nI 1) <<< ((nI l) &&& 31)) ^^^ (-1))) sl dn fa id0 gr lo) 63 h = cm h from (by rw [cr60_3])]
  refine a_iconstN (a := 1) dCourse_bring_61 (by decide) ?_
  refine a_iadd dCourse_bring_62 ?_
  refine a_iastN (a := h) dCourse_bring_63 ly_63 (by omega) (by omega) (by decide) ?_
  rw [cr60_cm]
  refine a_aload_n 1 dCourse_bring_64 rfl rfl ?_
  refine a_dup dCourse_bring_65 rfl ?_
  refine a_geti dCourse_bring_66 fl2_40 rfl ly_60 (by omega) ?_
  rw [show (cr60 I (va_up md h ((md h) + (dsO I o l (ls h)))) (va_up ls h (I (o + 3) l)) (va_up cm h ((cm h) + (nI 1))) ni (le &&& (((nI 1) <<< ((nI l) &&& 31)) ^^^ (-1))) sl dn fa id0 gr lo) 60 5 = dn from rfl]
  refine a_iload_n 0 dCourse_bring_69 rfl rfl ?_
  refine a_iadd dCourse_bring_70 ?_
  refine a_puti dCourse_bring_71 fl2_40 rfl ly_60 (by omega) ?_
  rw [cr60_f5]
  refine a_iload_n 0 dCourse_bring_74 rfl rfl ?_
  refine a_aload_n 1 dCourse_bring_75 rfl rfl ?_
  refine a_geta (r := o) dCourse_bring_76 fl2_21 rfl ly_60 (by omega) hRo ?_
  refine a_geta (r := (o + 5)) dCourse_bring_79 fl2_137 rfl (of_l0 ho) (by omega) (hr 4 (by decide)) ?_
  refine a_iload_n 2 dCourse_bring_82 rfl rfl ?_
  refine a_ialdN (a := l) dCourse_bring_83 (of_l5 ho) (by omega) (by omega) (by decide) ?_
  rw [show (cr60 I (va_up md h ((md h) + (dsO I o l (ls h)))) (va_up ls h (I (o + 3) l)) (va_up cm h ((cm h) + (nI 1))) ni (le &&& (((nI 1) <<< ((nI l) &&& 31)) ^^^ (-1))) sl (dn + (dsO I o l (ls h))) fa id0 gr lo) (o + 5) l = I (o + 5) l from (by rw [cr60_off ho 5 (by decide)])]
  refine a_icmp_eq (tgt := 99) dCourse_bring_84 (by decide) (fun c84 => ?_) (fun c84 => ?_)
  · refine a_iload_n 0 dCourse_bring_99 rfl rfl ?_
    refine a_if_ne (tgt := 113) dCourse_bring_100 (by decide) (fun c100 => ?_) (fun c100 => ?_)
    · exact a_vret dCourse_bring_113 rfl ⟨rfl, by rw [if_pos c84, if_neg c100]; rfl, rfl, rfl⟩
    · refine a_aload_n 1 dCourse_bring_103 rfl rfl ?_
      refine a_dup dCourse_bring_104 rfl ?_
      refine a_geti dCourse_bring_105 fl2_65 rfl ly_60 (by omega) ?_
      rw [show (cr60 I (va_up md h ((md h) + (dsO I o l (ls h)))) (va_up ls h (I (o + 3) l)) (va_up cm h ((cm h) + (nI 1))) ni (le &&& (((nI 1) <<< ((nI l) &&& 31)) ^^^ (-1))) sl (dn + (dsO I o l (ls h))) fa id0 gr lo) 60 12 = id0 from rfl]
      refine a_iconstN (a := 1) dCourse_bring_108 (by decide) ?_
      refine a_iadd dCourse_bring_109 ?_
      refine a_puti dCourse_bring_110 fl2_65 rfl ly_60 (by omega) ?_
      rw [cr60_f12]
      exact a_vret dCourse_bring_113 rfl ⟨rfl, by rw [if_pos c84, if_pos c100]; rfl, rfl, rfl⟩
  · refine a_aload_n 1 dCourse_bring_87 rfl rfl ?_
    refine a_dup dCourse_bring_88 rfl ?_
    refine a_geti dCourse_bring_89 fl2_62 rfl ly_60 (by omega) ?_
    rw [show (cr60 I (va_up md h ((md h) + (dsO I o l (ls h)))) (va_up ls h (I (o + 3) l)) (va_up cm h ((cm h) + (nI 1))) ni (le &&& (((nI 1) <<< ((nI l) &&& 31)) ^^^ (-1))) sl (dn + (dsO I o l (ls h))) fa id0 gr lo) 60 11 = fa from rfl]
    refine a_iconstN (a := 1) dCourse_bring_92 (by decide) ?_
    refine a_iload_n 2 dCourse_bring_93 rfl rfl ?_
    refine a_ishl dCourse_bring_94 ?_
    refine a_ior dCourse_bring_95 ?_
    refine a_puti dCourse_bring_96 fl2_62 rfl ly_60 (by omega) ?_
    rw [cr60_f11]
    refine a_iload_n 0 dCourse_bring_99 rfl rfl ?_
    refine a_if_ne (tgt := 113) dCourse_bring_100 (by decide) (fun c100 => ?_) (fun c100 => ?_)
    · exact a_vret dCourse_bring_113 rfl ⟨rfl, by rw [if_neg c84, if_neg c100]; rfl, rfl, rfl⟩
    · refine a_aload_n 1 dCourse_bring_103 rfl rfl ?_
      refine a_dup dCourse_bring_104 rfl ?_
      refine a_geti dCourse_bring_105 fl2_65 rfl ly_60 (by omega) ?_
      rw [show (cr60 I (va_up md h ((md h) + (dsO I o l (ls h)))) (va_up ls h (I (o + 3) l)) (va_up cm h ((cm h) + (nI 1))) ni (le &&& (((nI 1) <<< ((nI l) &&& 31)) ^^^ (-1))) sl (dn + (dsO I o l (ls h))) (fa ||| ((nI 1) <<< ((nI l) &&& 31))) id0 gr lo) 60 12 = id0 from rfl]
      refine a_iconstN (a := 1) dCourse_bring_108 (by decide) ?_
      refine a_iadd dCourse_bring_109 ?_
      refine a_puti dCourse_bring_110 fl2_65 rfl ly_60 (by omega) ?_
      rw [cr60_f12]
      exact a_vret dCourse_bring_113 rfl ⟨rfl, by rw [if_neg c84, if_pos c100]; rfl, rfl, rfl⟩
theorem l_noteLow88 {S : Nat × (Nat → Int32)} {d n : Nat} {I : mI} {J : mJ} {R : mR} {md ls cm : Nat → Int32} {ni le sl dn fa id0 gr lo : Int32}  (hn : 122 ≤ n) (hR : m_fin R) {o nh nl : Nat} (ho : o ∈ m_offs) (hr : offR R o) (hon : o + 8 < n) (hRo : R 88 0 = some o) (hh : I o 0 = nI nh) (hnh : nh ≤ 6) (hl : I o 1 = nI nl) (hnl : nl ≤ 10)  {Q : Option Value → mI → mJ → mR → Prop} (hQ : Q none (cr88 I md ls cm ni le sl dn fa id0 (lwN md (lo, gr) nh).2 (lwN md (lo, gr) nh).1) J R) : ∀ m k, k + m = nh → AW S d YCourse_noteLow n n Q 2 [(1, .int (nI k)), (0, .ref 88)] [] (cr88 I md ls cm ni le sl dn fa id0 (lwN md (lo, gr) k).2 (lwN md (lo, gr) k).1) J R n := by
  intro m
  induction m with
  | zero =>
    intro k hk9
    rw [show k = nh by omega]
    refine a_iload_n 0 dCourse_noteLow_2 rfl rfl ?_
    refine a_aload_n 1 dCourse_noteLow_3 rfl rfl ?_
    refine a_geta (r := o) dCourse_noteLow_4 fl2_21 rfl ly_88 (by omega) hRo ?_
    refine a_geti dCourse_noteLow_7 fl2_108 rfl (of_l0 ho) (by omega) ?_
    rw [show (cr88 I md ls cm ni le sl dn fa id0 (lwN md (lo, gr) nh).2 (lwN md (lo, gr) nh).1) o 0 = (nI nh) from (by rw [cr88_off0 ho]; exact hh)]
    refine a_icmp_geN (tgt := 68) dCourse_noteLow_10 (by decide) (by omega) (by omega) (fun _ => ?_) (fun c => False.elim (by omega))
    exact a_vret dCourse_noteLow_68 rfl hQ
  | succ m ih =>
    intro k hk9
    refine a_iload_n 0 dCourse_noteLow_2 rfl rfl ?_
    refine a_aload_n 1 dCourse_noteLow_3 rfl rfl ?_
    refine a_geta (r := o) dCourse_noteLow_4 fl2_21 rfl ly_88 (by omega) hRo ?_
    refine a_geti dCourse_noteLow_7 fl2_108 rfl (of_l0 ho) (by omega) ?_
    rw [show (cr88 I md ls cm ni le sl dn fa id0 (lwN md (lo, gr) k).2 (lwN md (lo, gr) k).1) o 0 = (nI nh) from (by rw [cr88_off0 ho]; exact hh)]
    refine a_icmp_geN (tgt := 68) dCourse_noteLow_10 (by decide) (by omega) (by omega) (fun c => False.elim (by omega)) (fun _ => ?_)
    refine a_aload_n 1 dCourse_noteLow_13 rfl rfl ?_
    refine a_geta (r := 89) dCourse_noteLow_14 fl2_9 rfl ly_88 (by omega) (rf_88_6 hR) ?_
    refine a_iload_n 0 dCourse_noteLow_17 rfl rfl ?_
    refine a_ialdN (a := k) dCourse_noteLow_18 ly_89 (by omega) (by omega) (by decide) ?_
    rw [show (cr88 I md ls cm ni le sl dn fa id0 (lwN md (lo, gr) k).2 (lwN md (lo, gr) k).1) 89 k = md k from (by rw [cr88_1])]
    refine a_aload_n 1 dCourse_noteLow_19 rfl rfl ?_
    refine a_geti dCourse_noteLow_20 fl2_59 rfl ly_88 (by omega) ?_
    rw [show (cr88 I md ls cm ni le sl dn fa id0 (lwN md (lo, gr) k).2 (lwN md (lo, gr) k).1) 88 10 = (lwN md (lo, gr) k).1 from rfl]
    refine a_icmp_lt (tgt := 47) dCourse_noteLow_23 (by decide) (fun c23 => ?_) (fun c23 => ?_)
    · refine a_aload_n 1 dCourse_noteLow_47 rfl rfl ?_
      refine a_aload_n 1 dCourse_noteLow_48 rfl rfl ?_
      refine a_geta (r := 89) dCourse_noteLow_49 fl2_9 rfl ly_88 (by omega) (rf_88_6 hR) ?_
      refine a_iload_n 0 dCourse_noteLow_52 rfl rfl ?_
      refine a_ialdN (a := k) dCourse_noteLow_53 ly_89 (by omega) (by omega) (by decide) ?_
      rw [show (cr88 I md ls cm ni le sl dn fa id0 (lwN md (lo, gr) k).2 (lwN md (lo, gr) k).1) 89 k = md k from (by rw [cr88_1])]
      refine a_puti dCourse_noteLow_54 fl2_59 rfl ly_88 (by omega) ?_
      rw [cr88_f10]
      refine a_aload_n 1 dCourse_noteLow_57 rfl rfl ?_
      refine a_iload_n 0 dCourse_noteLow_58 rfl rfl ?_
      refine a_puti dCourse_noteLow_59 fl2_56 rfl ly_88 (by omega) ?_
      rw [cr88_f9]
      refine a_iincN (lv' := [(1, .int (nI (k + 1))), (0, .ref 88)]) (j := 0) dCourse_noteLow_62 rfl (by decide) rfl ?_
      refine a_goto (tgt := 2) dCourse_noteLow_65 (by decide) ?_
      refine a_locs (lv' := [(1, .int (nI (k + 1))), (0, .ref 88)]) [0, 1] rfl ?_
      have hh := ih (k + 1) (by omega)
      rw [show lwN md (lo, gr) (k + 1) = _ from (by unfold lwN; rw [if_pos c23])] at hh
      exact hh
    · refine a_aload_n 1 dCourse_noteLow_26 rfl rfl ?_
      refine a_geta (r := 89) dCourse_noteLow_27 fl2_9 rfl ly_88 (by omega) (rf_88_6 hR) ?_
      refine a_iload_n 0 dCourse_noteLow_30 rfl rfl ?_
      refine a_ialdN (a := k) dCourse_noteLow_31 ly_89 (by omega) (by omega) (by decide) ?_
      rw [show (cr88 I md ls cm ni le sl dn fa id0 (lwN md (lo, gr) k).2 (lwN md (lo, gr) k).1) 89 k = md k from (by rw [cr88_1])]
      refine a_aload_n 1 dCourse_noteLow_32 rfl rfl ?_
      refine a_geti dCourse_noteLow_33 fl2_59 rfl ly_88 (by omega) ?_
      rw [show (cr88 I md ls cm ni le sl dn fa id0 (lwN md (lo, gr) k).2 (lwN md (lo, gr) k).1) 88 10 = (lwN md (lo, gr) k).1 from rfl]
      refine a_icmp_ne (tgt := 62) dCourse_noteLow_36 (by decide) (fun c36 => ?_) (fun c36 => ?_)
      · refine a_iincN (lv' := [(1, .int (nI (k + 1))), (0, .ref 88)]) (j := 0) dCourse_noteLow_62 rfl (by decide) rfl ?_
        refine a_goto (tgt := 2) dCourse_noteLow_65 (by decide) ?_
        refine a_locs (lv' := [(1, .int (nI (k + 1))), (0, .ref 88)]) [0, 1] rfl ?_
        have hh := ih (k + 1) (by omega)
        rw [show lwN md (lo, gr) (k + 1) = _ from (by unfold lwN; rw [if_neg c23, if_neg c36])] at hh
        exact hh
      · refine a_iload_n 0 dCourse_noteLow_39 rfl rfl ?_
        refine a_aload_n 1 dCourse_noteLow_40 rfl rfl ?_
        refine a_geti dCourse_noteLow_41 fl2_56 rfl ly_88 (by omega) ?_
        rw [show (cr88 I md ls cm ni le sl dn fa id0 (lwN md (lo, gr) k).2 (lwN md (lo, gr) k).1) 88 9 = (lwN md (lo, gr) k).2 from rfl]
        refine a_icmp_ge (tgt := 62) dCourse_noteLow_44 (by decide) (fun c44 => ?_) (fun c44 => ?_)
        · refine a_iincN (lv' := [(1, .int (nI (k + 1))), (0, .ref 88)]) (j := 0) dCourse_noteLow_62 rfl (by decide) rfl ?_
          refine a_goto (tgt := 2) dCourse_noteLow_65 (by decide) ?_
          refine a_locs (lv' := [(1, .int (nI (k + 1))), (0, .ref 88)]) [0, 1] rfl ?_
          have hh := ih (k + 1) (by omega)
          rw [show lwN md (lo, gr) (k + 1) = _ from (by unfold lwN; rw [if_neg c23, if_pos c36, if_pos c44])] at hh
          exact hh
        · refine a_aload_n 1 dCourse_noteLow_47 rfl rfl ?_
          refine a_aload_n 1 dCourse_noteLow_48 rfl rfl ?_
          refine a_geta (r := 89) dCourse_noteLow_49 fl2_9 rfl ly_88 (by omega) (rf_88_6 hR) ?_
          refine a_iload_n 0 dCourse_noteLow_52 rfl rfl ?_
          refine a_ialdN (a := k) dCourse_noteLow_53 ly_89 (by omega) (by omega) (by decide) ?_
          rw [show (cr88 I md ls cm ni le sl dn fa id0 (lwN md (lo, gr) k).2 (lwN md (lo, gr) k).1) 89 k = md k from (by rw [cr88_1])]
          refine a_puti dCourse_noteLow_54 fl2_59 rfl ly_88 (by omega) ?_
          rw [cr88_f10]
          refine a_aload_n 1 dCourse_noteLow_57 rfl rfl ?_
          refine a_iload_n 0 dCourse_noteLow_58 rfl rfl ?_
          refine a_puti dCourse_noteLow_59 fl2_56 rfl ly_88 (by omega) ?_
          rw [cr88_f9]
          refine a_iincN (lv' := [(1, .int (nI (k + 1))), (0, .ref 88)]) (j := 0) dCourse_noteLow_62 rfl (by decide) rfl ?_
          refine a_goto (tgt := 2) dCourse_noteLow_65 (by decide) ?_
          refine a_locs (lv' := [(1, .int (nI (k + 1))), (0, .ref 88)]) [0, 1] rfl ?_
          have hh := ih (k + 1) (by omega)
          rw [show lwN md (lo, gr) (k + 1) = _ from (by unfold lwN; rw [if_neg c23, if_pos c36, if_neg c44])] at hh
          exact hh
theorem c_noteLow88 {S : Nat × (Nat → Int32)} {d n : Nat} {I : mI} {J : mJ} {R : mR} {md ls cm : Nat → Int32} {ni le sl dn fa id0 gr lo : Int32}  (hn : 122 ≤ n) (hR : m_fin R) {o nh nl : Nat} (ho : o ∈ m_offs) (hr : offR R o) (hon : o + 8 < n) (hRo : R 88 0 = some o) (hh : I o 0 = nI nh) (hnh : nh ≤ 6) (hl : I o 1 = nI nl) (hnl : nl ≤ 10)  : RUN S d YCourse_noteLow [.ref 88] (cr88 I md ls cm ni le sl dn fa id0 gr lo) J R n none (cr88 I md ls cm ni le sl dn fa id0 (lwN md (lo, gr) nh).2 (lwN md (lo, gr) nh).1) J R n := by
  show AW S _ YCourse_noteLow n n _ 0 [(0, .ref 88)] [] (cr88 I md ls cm ni le sl dn fa id0 gr lo) J R n
  refine a_iconstN (a := 0) dCourse_noteLow_0 (by decide) ?_
  refine a_istore_n (lv' := [(1, .int (nI 0)), (0, .ref 88)]) dCourse_noteLow_1 rfl (by decide) rfl ?_
  exact l_noteLow88 hn hR ho hr hon hRo hh hnh hl hnl ⟨rfl, rfl, rfl, rfl⟩ nh 0 (by omega)
theorem c_bring88 {S : Nat × (Nat → Int32)} {d n : Nat} {I : mI} {J : mJ} {R : mR} {md ls cm : Nat → Int32} {ni le sl dn fa id0 gr lo : Int32}  (hn : 122 ≤ n) (hR : m_fin R) {o nh nl : Nat} (ho : o ∈ m_offs) (hr : offR R o) (hon : o + 8 < n) (hRo : R 88 0 = some o) (hh : I o 0 = nI nh) (hnh : nh ≤ 6) (hl : I o 1 = nI nl) (hnl : nl ≤ 10) {l h : Nat} (hl10 : l < nl) (hh6 : h < 6) (hW : WFc I o nl) (hx : kOK (ls h))  : RUN S (d + 1) YCourse_bring [.ref 88, .int (nI l), .int (nI h)] (cr88 I md ls cm ni le sl dn fa id0 gr lo) J R n none (cr88 I (va_up md h (md h + (dsO I o l (ls h)))) (va_up ls h (I (o + 3) l)) (va_up cm h (cm h + 1)) ni (le &&& (1 <<< (nI l &&& 31) ^^^ -1)) sl (dn + (dsO I o l (ls h))) (if (dsO I o l (ls h)) = I (o + 5) l then fa else fa ||| (nI 1 <<< (nI l &&& 31))) (if (dsO I o l (ls h)) = 0 then id0 + 1 else id0) gr lo) J R n := by
  show AW S _ YCourse_bring n n _ 0 [(0, .ref 88), (1, .int (nI l)), (2, .int (nI h))] [] (cr88 I md ls cm ni le sl dn fa id0 gr lo) J R n
  refine a_aload_n 0 dCourse_bring_0 rfl rfl ?_
  refine a_geta (r := o) dCourse_bring_1 fl2_21 rfl ly_88 (by omega) hRo ?_
  refine a_iload_n 1 dCourse_bring_4 rfl rfl ?_
  refine a_aload_n 0 dCourse_bring_5 rfl rfl ?_
  refine a_geta (r := 90) dCourse_bring_6 fl2_15 rfl ly_88 (by omega) (rf_88_7 hR) ?_
  refine a_iload_n 2 dCourse_bring_9 rfl rfl ?_
  refine a_ialdN (a := h) dCourse_bring_10 ly_90 (by omega) (by omega) (by decide) ?_
  rw [show (cr88 I md ls cm ni le sl dn fa id0 gr lo) 90 h = ls h from (by rw [cr88_2])]
  refine a_callV (Q' := m_res (some (.int (dsO I o l (ls h)))) (cr88 I md ls cm ni le sl dn fa id0 gr lo) J R) (as := [.int (nI l), .int (ls h)]) (st := []) dCourse_bring_11 ml2_133 rfl (Nat.le_of_ble_eq_true rfl) (of_l0 ho) rfl rfl (by decide) (by omega) (Nat.le_of_ble_eq_true rfl) rfl (Nat.le_refl _) (Nat.le_refl _) (by obtain ⟨q, hq, e⟩ := hW l (by omega); have h := c_Office_does (S := S) (d := d) (J := J) (I := (cr88 I md ls cm ni le sl dn fa id0 gr lo)) ho hr hon (l := l) (q := q) (by omega) (by rw [cr88_off ho 3 (by decide)]; exact e) hq hx; rw [cr88_dsO ho] at h; exact h) (m_go ?_)
  show AW _ _ _ _ _ _ _ _ [.int (dsO I o l (ls h))] _ _ _ _
  refine a_istore_n (lv' := [(3, .int (dsO I o l (ls h))), (0, .ref 88), (1, .int (nI l)), (2, .int (nI h))]) dCourse_bring_14 rfl (by decide) rfl ?_
  refine a_aload_n 1 dCourse_bring_15 rfl rfl ?_
  refine a_dup dCourse_bring_16 rfl ?_
  refine a_geti dCourse_bring_17 fl2_31 rfl ly_88 (by omega) ?_
  rw [show (cr88 I md ls cm ni le sl dn fa id0 gr lo) 88 2 = le from rfl]
  refine a_iconstN (a := 1) dCourse_bring_20 (by decide) ?_
  refine a_iload_n 2 dCourse_bring_21 rfl rfl ?_
  refine a_ishl dCourse_bring_22 ?_
  refine a_iconst (v := -1) dCourse_bring_23 (by decide) ?_
  refine a_ixor dCourse_bring_24 ?_
  refine a_iand dCourse_bring_25 ?_
  refine a_puti dCourse_bring_26 fl2_31 rfl ly_88 (by omega) ?_
  rw [cr88_f2]
  refine a_aload_n 1 dCourse_bring_29 rfl rfl ?_
  refine a_geta (r := 89) dCourse_bring_30 fl2_9 rfl ly_88 (by omega) (rf_88_6 hR) ?_
  refine a_iload_n 3 dCourse_bring_33 rfl rfl ?_
  refine a_dup2 dCourse_bring_34 rfl rfl ?_
  refine a_ialdN (a := h) dCourse_bring_35 ly_89 (by omega) (by omega) (by decide) ?_
  rw [show (cr88 I md ls cm ni (le &&& (((nI 1) <<< ((nI l) &&& 31)) ^^^ (-1))) sl dn fa id0 gr lo) 89 h = md h from (by rw [cr88_1])]
  refine a_iload_n 0 dCourse_bring_36 rfl rfl ?_
  refine a_iadd dCourse_bring_37 ?_
  refine a_iastN (a := h) dCourse_bring_38 ly_89 (by omega) (by omega) (by decide) ?_
  rw [cr88_md]
  refine a_aload_n 1 dCourse_bring_39 rfl rfl ?_
  refine a_geta (r := 90) dCourse_bring_40 fl2_15 rfl ly_88 (by omega) (rf_88_7 hR) ?_
  refine a_iload_n 3 dCourse_bring_43 rfl rfl ?_
  refine a_aload_n 1 dCourse_bring_44 rfl rfl ?_
  refine a_geta (r := o) dCourse_bring_45 fl2_21 rfl ly_88 (by omega) hRo ?_
  refine a_geta (r := (o + 3)) dCourse_bring_48 fl2_136 rfl (of_l0 ho) (by omega) (hr 2 (by decide)) ?_
  refine a_iload_n 2 dCourse_bring_51 rfl rfl ?_
  refine a_ialdN (a := l) dCourse_bring_52 (of_l3 ho) (by omega) (by omega) (by decide) ?_
  rw [show (cr88 I (va_up md h ((md h) + (dsO I o l (ls h)))) ls cm ni (le &&& (((nI 1) <<< ((nI l) &&& 31)) ^^^ (-1))) sl dn fa id0 gr lo) (o + 3) l = I (o + 3) l from (by rw [cr88_off ho 3 (by decide)])]
  refine a_iastN (a := h) dCourse_bring_53 ly_90 (by omega) (by omega) (by decide) ?_
  rw [cr88_ls]
  refine a_aload_n 1 dCourse_bring_54 rfl rfl ?_
  refine a_geta (r := 91) dCourse_bring_55 fl2_18 rfl ly_88 (by omega) (rf_88_8 hR) ?_
  refine a_iload_n 3 dCourse_bring_58 rfl rfl ?_
  refine a_dup2 dCourse_bring_59 rfl rfl ?_
  refine a_ialdN (a := h) dCourse_bring_60 ly_91 (by omega) (by omega) (by decide) ?_
  rw [show (cr88 I (va_up md h ((md h) + (dsO I o l (ls h)))) (va_up ls h (I (o + 3) l)) cm ni (le &&& (((nI 1) <<< ((nI l) &&& 31)) ^^^ (-1))) sl dn fa id0 gr lo) 91 h = cm h from (by rw [cr88_3])]
  refine a_iconstN (a := 1) dCourse_bring_61 (by decide) ?_
  refine a_iadd dCourse_bring_62 ?_
  refine a_iastN (a := h) dCourse_bring_63 ly_91 (by omega) (by omega) (by decide) ?_
  rw [cr88_cm]
  refine a_aload_n 1 dCourse_bring_64 rfl rfl ?_
  refine a_dup dCourse_bring_65 rfl ?_
  refine a_geti dCourse_bring_66 fl2_40 rfl ly_88 (by omega) ?_
  rw [show (cr88 I (va_up md h ((md h) + (dsO I o l (ls h)))) (va_up ls h (I (o + 3) l)) (va_up cm h ((cm h) + (nI 1))) ni (le &&& (((nI 1) <<< ((nI l) &&& 31)) ^^^ (-1))) sl dn fa id0 gr lo) 88 5 = dn from rfl]
  refine a_iload_n 0 dCourse_bring_69 rfl rfl ?_
  refine a_iadd dCourse_bring_70 ?_
  refine a_puti dCourse_bring_71 fl2_40 rfl ly_88 (by omega) ?_
  rw [cr88_f5]
  refine a_iload_n 0 dCourse_bring_74 rfl rfl ?_
  refine a_aload_n 1 dCourse_bring_75 rfl rfl ?_
  refine a_geta (r := o) dCourse_bring_76 fl2_21 rfl ly_88 (by omega) hRo ?_
  refine a_geta (r := (o + 5)) dCourse_bring_79 fl2_137 rfl (of_l0 ho) (by omega) (hr 4 (by decide)) ?_
  refine a_iload_n 2 dCourse_bring_82 rfl rfl ?_
  refine a_ialdN (a := l) dCourse_bring_83 (of_l5 ho) (by omega) (by omega) (by decide) ?_
  rw [show (cr88 I (va_up md h ((md h) + (dsO I o l (ls h)))) (va_up ls h (I (o + 3) l)) (va_up cm h ((cm h) + (nI 1))) ni (le &&& (((nI 1) <<< ((nI l) &&& 31)) ^^^ (-1))) sl (dn + (dsO I o l (ls h))) fa id0 gr lo) (o + 5) l = I (o + 5) l from (by rw [cr88_off ho 5 (by decide)])]
  refine a_icmp_eq (tgt := 99) dCourse_bring_84 (by decide) (fun c84 => ?_) (fun c84 => ?_)
  · refine a_iload_n 0 dCourse_bring_99 rfl rfl ?_
    refine a_if_ne (tgt := 113) dCourse_bring_100 (by decide) (fun c100 => ?_) (fun c100 => ?_)
    · exact a_vret dCourse_bring_113 rfl ⟨rfl, by rw [if_pos c84, if_neg c100]; rfl, rfl, rfl⟩
    · refine a_aload_n 1 dCourse_bring_103 rfl rfl ?_
      refine a_dup dCourse_bring_104 rfl ?_
      refine a_geti dCourse_bring_105 fl2_65 rfl ly_88 (by omega) ?_
      rw [show (cr88 I (va_up md h ((md h) + (dsO I o l (ls h)))) (va_up ls h (I (o + 3) l)) (va_up cm h ((cm h) + (nI 1))) ni (le &&& (((nI 1) <<< ((nI l) &&& 31)) ^^^ (-1))) sl (dn + (dsO I o l (ls h))) fa id0 gr lo) 88 12 = id0 from rfl]
      refine a_iconstN (a := 1) dCourse_bring_108 (by decide) ?_
      refine a_iadd dCourse_bring_109 ?_
      refine a_puti dCourse_bring_110 fl2_65 rfl ly_88 (by omega) ?_
      rw [cr88_f12]
      exact a_vret dCourse_bring_113 rfl ⟨rfl, by rw [if_pos c84, if_pos c100]; rfl, rfl, rfl⟩
  · refine a_aload_n 1 dCourse_bring_87 rfl rfl ?_
    refine a_dup dCourse_bring_88 rfl ?_
    refine a_geti dCourse_bring_89 fl2_62 rfl ly_88 (by omega) ?_
    rw [show (cr88 I (va_up md h ((md h) + (dsO I o l (ls h)))) (va_up ls h (I (o + 3) l)) (va_up cm h ((cm h) + (nI 1))) ni (le &&& (((nI 1) <<< ((nI l) &&& 31)) ^^^ (-1))) sl (dn + (dsO I o l (ls h))) fa id0 gr lo) 88 11 = fa from rfl]
    refine a_iconstN (a := 1) dCourse_bring_92 (by decide) ?_
    refine a_iload_n 2 dCourse_bring_93 rfl rfl ?_
    refine a_ishl dCourse_bring_94 ?_
    refine a_ior dCourse_bring_95 ?_
    refine a_puti dCourse_bring_96 fl2_62 rfl ly_88 (by omega) ?_
    rw [cr88_f11]
    refine a_iload_n 0 dCourse_bring_99 rfl rfl ?_
    refine a_if_ne (tgt := 113) dCourse_bring_100 (by decide) (fun c100 => ?_) (fun c100 => ?_)
    · exact a_vret dCourse_bring_113 rfl ⟨rfl, by rw [if_neg c84, if_neg c100]; rfl, rfl, rfl⟩
    · refine a_aload_n 1 dCourse_bring_103 rfl rfl ?_
      refine a_dup dCourse_bring_104 rfl ?_
      refine a_geti dCourse_bring_105 fl2_65 rfl ly_88 (by omega) ?_
      rw [show (cr88 I (va_up md h ((md h) + (dsO I o l (ls h)))) (va_up ls h (I (o + 3) l)) (va_up cm h ((cm h) + (nI 1))) ni (le &&& (((nI 1) <<< ((nI l) &&& 31)) ^^^ (-1))) sl (dn + (dsO I o l (ls h))) (fa ||| ((nI 1) <<< ((nI l) &&& 31))) id0 gr lo) 88 12 = id0 from rfl]
      refine a_iconstN (a := 1) dCourse_bring_108 (by decide) ?_
      refine a_iadd dCourse_bring_109 ?_
      refine a_puti dCourse_bring_110 fl2_65 rfl ly_88 (by omega) ?_
      rw [cr88_f12]
      exact a_vret dCourse_bring_113 rfl ⟨rfl, by rw [if_neg c84, if_pos c100]; rfl, rfl, rfl⟩
