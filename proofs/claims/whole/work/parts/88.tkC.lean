/-- as far as all are such -/
def spW (q : Nat → Bool) : Nat → Nat → Nat
  | 0, p => p
  | m + 1, p => if q p = true then spW q m (p + 1) else p
theorem spW_le {q : Nat → Bool} : ∀ m p, p ≤ spW q m p ∧ spW q m p ≤ p + m := by
  intro m
  induction m with
  | zero => intro p; exact ⟨Nat.le_refl _, Nat.le_refl _⟩
  | succ m ih =>
    intro p
    unfold spW
    split
    · have := ih (p + 1); omega
    · omega
def f_bl (x : Int32) : Int32 := if x = nI 10 then 1 else if x = nI 32 then 1 else 0
def blB (T : Nat → Int32) (p : Nat) : Bool := decide (¬ f_bl (T p) = 0)
def smB (T : Nat → Int32) (p : Nat) : Bool := decide (¬ f_in (T p) (nI 97) (nI 122) = 0)
def dgB (T : Nat → Int32) (p : Nat) : Bool := decide (¬ f_in (T p) (nI 48) (nI 57) = 0)
/-- a token: its place, its end and its sort -/
def tkB (T : Nat → Int32) (len p : Nat) : Nat := spW (blB T) (len - p) p
def tkE (T : Nat → Int32) (len p : Nat) : Nat := if len ≤ tkB T len p then len else if smB T (tkB T len p) = true then spW (smB T) (len - (tkB T len p + 1)) (tkB T len p + 1) else if dgB T (tkB T len p) = true then spW (dgB T) (len - (tkB T len p + 1)) (tkB T len p + 1) else tkB T len p + 1
def tkS (T : Nat → Int32) (len p : Nat) : Nat := if len ≤ tkB T len p then 0 else if smB T (tkB T len p) = true then 1 else if dgB T (tkB T len p) = true then (if tkE T len p - tkB T len p ≤ 2 then 2 else 4) else if T (tkB T len p) = nI 59 then 3 else 4
theorem tkB_le {T : Nat → Int32} {len p : Nat} (h : p ≤ len) : p ≤ tkB T len p ∧ tkB T len p ≤ len := by
  have := spW_le (q := blB T) (len - p) p
  unfold tkB; omega
theorem tkE_le {T : Nat → Int32} {len p : Nat} (h : p ≤ len) : tkB T len p ≤ tkE T len p ∧ tkE T len p ≤ len := by
  have h1 := tkB_le (T := T) h
  have h2 := spW_le (q := smB T) (len - (tkB T len p + 1)) (tkB T len p + 1)
  have h3 := spW_le (q := dgB T) (len - (tkB T len p + 1)) (tkB T len p + 1)
  unfold tkE
  split
  · omega
  · split
    · omega
    · split <;> omega
theorem tkE_lt {T : Nat → Int32} {len p : Nat} (h : p ≤ len) (h0 : ¬ len ≤ tkB T len p) : tkB T len p < tkE T len p := by
  have h2 := spW_le (q := smB T) (len - (tkB T len p + 1)) (tkB T len p + 1)
  have h3 := spW_le (q := dgB T) (len - (tkB T len p + 1)) (tkB T len p + 1)
  unfold tkE
  rw [if_neg h0]
  split
  · omega
  · split <;> omega
theorem c_Reader_isBlank {S : Nat × (Nat → Int32)} {d n : Nat} {I : mI} {J : mJ} {R : mR} {x : Int32}  : RUN S d YReader_isBlank [.int x] I J R n (some (.int (f_bl x))) I J R n := by
  show AW S _ YReader_isBlank n n _ 0 [(0, .int x)] [] I J R n
  refine a_iload_n 0 dReader_isBlank_0 rfl rfl ?_
  refine a_bipushN (a := 10) dReader_isBlank_1 (by decide) ?_
  refine a_icmp_eq (tgt := 12) dReader_isBlank_3 (by decide) (fun c3 => ?_) (fun c3 => ?_)
  · refine a_iconstN (a := 1) dReader_isBlank_12 (by decide) ?_
    refine a_goto (tgt := 17) dReader_isBlank_13 (by decide) ?_
    exact a_zret dReader_isBlank_17 rfl (by rfl) ⟨by unfold f_bl; rw [if_pos c3]; rfl, rfl, rfl, rfl⟩
  · refine a_iload_n 0 dReader_isBlank_6 rfl rfl ?_
    refine a_bipushN (a := 32) dReader_isBlank_7 (by decide) ?_
    refine a_icmp_ne (tgt := 16) dReader_isBlank_9 (by decide) (fun c9 => ?_) (fun c9 => ?_)
    · refine a_iconstN (a := 0) dReader_isBlank_16 (by decide) ?_
      exact a_zret dReader_isBlank_17 rfl (by rfl) ⟨by unfold f_bl; rw [if_neg c3, if_neg c9]; rfl, rfl, rfl, rfl⟩
    · refine a_iconstN (a := 1) dReader_isBlank_12 (by decide) ?_
      refine a_goto (tgt := 17) dReader_isBlank_13 (by decide) ?_
      exact a_zret dReader_isBlank_17 rfl (by rfl) ⟨by unfold f_bl; rw [if_neg c3, if_pos c9]; rfl, rfl, rfl, rfl⟩
theorem c_Reader_isSmall {S : Nat × (Nat → Int32)} {d n : Nat} {I : mI} {J : mJ} {R : mR} {x : Int32}  : RUN S d YReader_isSmall [.int x] I J R n (some (.int (f_in x (nI 97) (nI 122)))) I J R n := by
  show AW S _ YReader_isSmall n n _ 0 [(0, .int x)] [] I J R n
  refine a_iload_n 0 dReader_isSmall_0 rfl rfl ?_
  refine a_bipushN (a := 97) dReader_isSmall_1 (by decide) ?_
  refine a_icmp_lt (tgt := 16) dReader_isSmall_3 (by decide) (fun c3 => ?_) (fun c3 => ?_)
  · refine a_iconstN (a := 0) dReader_isSmall_16 (by decide) ?_
    exact a_zret dReader_isSmall_17 rfl (by rfl) ⟨by unfold f_in; rw [if_pos c3]; rfl, rfl, rfl, rfl⟩
  · refine a_iload_n 0 dReader_isSmall_6 rfl rfl ?_
    refine a_bipushN (a := 122) dReader_isSmall_7 (by decide) ?_
    refine a_icmp_gt (tgt := 16) dReader_isSmall_9 (by decide) (fun c9 => ?_) (fun c9 => ?_)
    · refine a_iconstN (a := 0) dReader_isSmall_16 (by decide) ?_
      exact a_zret dReader_isSmall_17 rfl (by rfl) ⟨by unfold f_in; rw [if_neg c3, if_pos c9]; rfl, rfl, rfl, rfl⟩
    · refine a_iconstN (a := 1) dReader_isSmall_12 (by decide) ?_
      refine a_goto (tgt := 17) dReader_isSmall_13 (by decide) ?_
      exact a_zret dReader_isSmall_17 rfl (by rfl) ⟨by unfold f_in; rw [if_neg c3, if_neg c9]; rfl, rfl, rfl, rfl⟩
theorem c_Reader_isDigit {S : Nat × (Nat → Int32)} {d n : Nat} {I : mI} {J : mJ} {R : mR} {x : Int32}  : RUN S d YReader_isDigit [.int x] I J R n (some (.int (f_in x (nI 48) (nI 57)))) I J R n := by
  show AW S _ YReader_isDigit n n _ 0 [(0, .int x)] [] I J R n
  refine a_iload_n 0 dReader_isDigit_0 rfl rfl ?_
  refine a_bipushN (a := 48) dReader_isDigit_1 (by decide) ?_
  refine a_icmp_lt (tgt := 16) dReader_isDigit_3 (by decide) (fun c3 => ?_) (fun c3 => ?_)
  · refine a_iconstN (a := 0) dReader_isDigit_16 (by decide) ?_
    exact a_zret dReader_isDigit_17 rfl (by rfl) ⟨by unfold f_in; rw [if_pos c3]; rfl, rfl, rfl, rfl⟩
  · refine a_iload_n 0 dReader_isDigit_6 rfl rfl ?_
    refine a_bipushN (a := 57) dReader_isDigit_7 (by decide) ?_
    refine a_icmp_gt (tgt := 16) dReader_isDigit_9 (by decide) (fun c9 => ?_) (fun c9 => ?_)
    · refine a_iconstN (a := 0) dReader_isDigit_16 (by decide) ?_
      exact a_zret dReader_isDigit_17 rfl (by rfl) ⟨by unfold f_in; rw [if_neg c3, if_pos c9]; rfl, rfl, rfl, rfl⟩
    · refine a_iconstN (a := 1) dReader_isDigit_12 (by decide) ?_
      refine a_goto (tgt := 17) dReader_isDigit_13 (by decide) ?_
      exact a_zret dReader_isDigit_17 rfl (by rfl) ⟨by unfold f_in; rw [if_neg c3, if_neg c9]; rfl, rfl, rfl, rfl⟩
theorem l_tkw {S : Nat × (Nat → Int32)} {d n : Nat} {I : mI} {J : mJ} {R : mR} (hn : 122 ≤ n) (hR : m_fin R) (hRt : R 40 5 = some 2) {F : Nat → Int32} {len : Nat} (hlen : F 6 = nI len) (hl6 : len ≤ 600) {Q : Option Value → mI → mJ → mR → Prop} {e : Nat} (hx : AW S (d + 1) YReader_takeWord n n Q 39 [(0, .ref 40)] [] (m_row I 40 (va_up F 9 (nI e))) J R n) : ∀ m p, p + m = len → spW (smB (I 2)) m p = e → AW S (d + 1) YReader_takeWord n n Q 0 [(0, .ref 40)] [] (m_row I 40 (va_up F 9 (nI p))) J R n := by
  intro m
  induction m with
  | zero =>
    intro p hp9 he
    obtain rfl : p = len := by omega
    obtain rfl : p = e := he
    refine a_aload_n 0 dReader_takeWord_0 rfl rfl ?_
    refine a_geti dReader_takeWord_1 fl7_90 rfl ly_40 (by omega) ?_
    rw [show (m_row I 40 (va_up F 9 (nI p))) 40 9 = (nI p) from rfl]
    refine a_aload_n 0 dReader_takeWord_4 rfl rfl ?_
    refine a_geti dReader_takeWord_5 fl7_46 rfl ly_40 (by omega) ?_
    rw [show (m_row I 40 (va_up F 9 (nI p))) 40 6 = (nI p) from hlen]
    refine a_icmp_geN (tgt := 39) dReader_takeWord_8 (by decide) (by omega) (by omega) (fun _ => ?_) (fun c => False.elim (by omega))
    exact hx
  | succ m ih =>
    intro p hp9 he
    unfold spW at he
    by_cases hq : smB (I 2) p = true
    · refine a_aload_n 0 dReader_takeWord_0 rfl rfl ?_
      refine a_geti dReader_takeWord_1 fl7_90 rfl ly_40 (by omega) ?_
      rw [show (m_row I 40 (va_up F 9 (nI p))) 40 9 = (nI p) from rfl]
      refine a_aload_n 0 dReader_takeWord_4 rfl rfl ?_
      refine a_geti dReader_takeWord_5 fl7_46 rfl ly_40 (by omega) ?_
      rw [show (m_row I 40 (va_up F 9 (nI p))) 40 6 = (nI len) from hlen]
      refine a_icmp_geN (tgt := 39) dReader_takeWord_8 (by decide) (by omega) (by omega) (fun c => False.elim (by omega)) (fun _ => ?_)
      refine a_aload_n 0 dReader_takeWord_11 rfl rfl ?_
      refine a_geta (r := 2) dReader_takeWord_12 fl7_77 rfl ly_40 (by omega) hRt ?_
      refine a_aload_n 0 dReader_takeWord_15 rfl rfl ?_
      refine a_geti dReader_takeWord_16 fl7_90 rfl ly_40 (by omega) ?_
      rw [show (m_row I 40 (va_up F 9 (nI p))) 40 9 = (nI p) from rfl]
      refine a_baldN (a := p) dReader_takeWord_19 ly_2 (by omega) (by omega) (by decide) (fun hb19 => ?_)
      rw [show (m_row I 40 (va_up F 9 (nI p))) 2 p = I 2 p from rfl]
      refine a_callS (Q' := m_res (some (.int (f_in (I 2 p) (nI 97) (nI 122)))) (m_row I 40 (va_up F 9 (nI p))) J R) (as := [.int (I 2 p)]) (st := []) dReader_takeWord_20 ml7_248 rfl (Nat.le_of_ble_eq_true rfl) (Nat.le_of_ble_eq_true rfl) rfl (Nat.le_refl _) (Nat.le_refl _) c_Reader_isSmall (m_go ?_)
      show AW _ _ _ _ _ _ _ _ [.int (f_in (I 2 p) (nI 97) (nI 122))] _ _ _ _
      refine a_if_eq (tgt := 39) dReader_takeWord_23 (by decide) (fun c => False.elim ((of_decide_eq_true hq) c)) (fun _ => ?_)
      refine a_aload_n 0 dReader_takeWord_26 rfl rfl ?_
      refine a_dup dReader_takeWord_27 rfl ?_
      refine a_geti dReader_takeWord_28 fl7_90 rfl ly_40 (by omega) ?_
      rw [show (m_row I 40 (va_up F 9 (nI p))) 40 9 = (nI p) from rfl]
      refine a_iconstN (a := 1) dReader_takeWord_31 (by decide) ?_
      refine a_iaddN (a := p) (b := 1) dReader_takeWord_32 ?_
      refine a_puti dReader_takeWord_33 fl7_90 rfl ly_40 (by omega) ?_
      rw [show m_up (m_row I 40 (va_up F 9 (nI p))) 40 9 (nI (p + 1)) = (m_row I 40 (va_up F 9 (nI (p + 1)))) from (by rw [m_up_r, show va_up (va_up F 9 (nI p)) 9 (nI (p + 1)) = (va_up F 9 (nI (p + 1))) from va_uu])]
      refine a_goto (tgt := 0) dReader_takeWord_36 (by decide) ?_
      exact ih (p + 1) (by omega) (by rw [if_pos hq] at he; exact he)
    · refine a_aload_n 0 dReader_takeWord_0 rfl rfl ?_
      refine a_geti dReader_takeWord_1 fl7_90 rfl ly_40 (by omega) ?_
      rw [show (m_row I 40 (va_up F 9 (nI p))) 40 9 = (nI p) from rfl]
      refine a_aload_n 0 dReader_takeWord_4 rfl rfl ?_
      refine a_geti dReader_takeWord_5 fl7_46 rfl ly_40 (by omega) ?_
      rw [show (m_row I 40 (va_up F 9 (nI p))) 40 6 = (nI len) from hlen]
      refine a_icmp_geN (tgt := 39) dReader_takeWord_8 (by decide) (by omega) (by omega) (fun c => False.elim (by omega)) (fun _ => ?_)
      refine a_aload_n 0 dReader_takeWord_11 rfl rfl ?_
      refine a_geta (r := 2) dReader_takeWord_12 fl7_77 rfl ly_40 (by omega) hRt ?_
      refine a_aload_n 0 dReader_takeWord_15 rfl rfl ?_
      refine a_geti dReader_takeWord_16 fl7_90 rfl ly_40 (by omega) ?_
      rw [show (m_row I 40 (va_up F 9 (nI p))) 40 9 = (nI p) from rfl]
      refine a_baldN (a := p) dReader_takeWord_19 ly_2 (by omega) (by omega) (by decide) (fun hb19 => ?_)
      rw [show (m_row I 40 (va_up F 9 (nI p))) 2 p = I 2 p from rfl]
      refine a_callS (Q' := m_res (some (.int (f_in (I 2 p) (nI 97) (nI 122)))) (m_row I 40 (va_up F 9 (nI p))) J R) (as := [.int (I 2 p)]) (st := []) dReader_takeWord_20 ml7_248 rfl (Nat.le_of_ble_eq_true rfl) (Nat.le_of_ble_eq_true rfl) rfl (Nat.le_refl _) (Nat.le_refl _) c_Reader_isSmall (m_go ?_)
      show AW _ _ _ _ _ _ _ _ [.int (f_in (I 2 p) (nI 97) (nI 122))] _ _ _ _
      refine a_if_eq (tgt := 39) dReader_takeWord_23 (by decide) (fun _ => ?_) (fun c => False.elim (hq (decide_eq_true c)))
      rw [if_neg hq] at he
      subst he
      exact hx
theorem l_tkd {S : Nat × (Nat → Int32)} {d n : Nat} {I : mI} {J : mJ} {R : mR} (hn : 122 ≤ n) (hR : m_fin R) (hRt : R 40 5 = some 2) {F : Nat → Int32} {len : Nat} (hlen : F 6 = nI len) (hl6 : len ≤ 600) {Q : Option Value → mI → mJ → mR → Prop} {e : Nat} (hx : AW S (d + 1) YReader_takeDigits n n Q 39 [(0, .ref 40)] [] (m_row I 40 (va_up F 9 (nI e))) J R n) : ∀ m p, p + m = len → spW (dgB (I 2)) m p = e → AW S (d + 1) YReader_takeDigits n n Q 0 [(0, .ref 40)] [] (m_row I 40 (va_up F 9 (nI p))) J R n := by
  intro m
  induction m with
  | zero =>
    intro p hp9 he
    obtain rfl : p = len := by omega
    obtain rfl : p = e := he
    refine a_aload_n 0 dReader_takeDigits_0 rfl rfl ?_
    refine a_geti dReader_takeDigits_1 fl7_90 rfl ly_40 (by omega) ?_
    rw [show (m_row I 40 (va_up F 9 (nI p))) 40 9 = (nI p) from rfl]
    refine a_aload_n 0 dReader_takeDigits_4 rfl rfl ?_
    refine a_geti dReader_takeDigits_5 fl7_46 rfl ly_40 (by omega) ?_
    rw [show (m_row I 40 (va_up F 9 (nI p))) 40 6 = (nI p) from hlen]
    refine a_icmp_geN (tgt := 39) dReader_takeDigits_8 (by decide) (by omega) (by omega) (fun _ => ?_) (fun c => False.elim (by omega))
    exact hx
  | succ m ih =>
    intro p hp9 he
    unfold spW at he
    by_cases hq : dgB (I 2) p = true
    · refine a_aload_n 0 dReader_takeDigits_0 rfl rfl ?_
      refine a_geti dReader_takeDigits_1 fl7_90 rfl ly_40 (by omega) ?_
      rw [show (m_row I 40 (va_up F 9 (nI p))) 40 9 = (nI p) from rfl]
      refine a_aload_n 0 dReader_takeDigits_4 rfl rfl ?_
      refine a_geti dReader_takeDigits_5 fl7_46 rfl ly_40 (by omega) ?_
      rw [show (m_row I 40 (va_up F 9 (nI p))) 40 6 = (nI len) from hlen]
      refine a_icmp_geN (tgt := 39) dReader_takeDigits_8 (by decide) (by omega) (by omega) (fun c => False.elim (by omega)) (fun _ => ?_)
      refine a_aload_n 0 dReader_takeDigits_11 rfl rfl ?_
      refine a_geta (r := 2) dReader_takeDigits_12 fl7_77 rfl ly_40 (by omega) hRt ?_
      refine a_aload_n 0 dReader_takeDigits_15 rfl rfl ?_
      refine a_geti dReader_takeDigits_16 fl7_90 rfl ly_40 (by omega) ?_
      rw [show (m_row I 40 (va_up F 9 (nI p))) 40 9 = (nI p) from rfl]
      refine a_baldN (a := p) dReader_takeDigits_19 ly_2 (by omega) (by omega) (by decide) (fun hb19 => ?_)
      rw [show (m_row I 40 (va_up F 9 (nI p))) 2 p = I 2 p from rfl]
      refine a_callS (Q' := m_res (some (.int (f_in (I 2 p) (nI 48) (nI 57)))) (m_row I 40 (va_up F 9 (nI p))) J R) (as := [.int (I 2 p)]) (st := []) dReader_takeDigits_20 ml7_254 rfl (Nat.le_of_ble_eq_true rfl) (Nat.le_of_ble_eq_true rfl) rfl (Nat.le_refl _) (Nat.le_refl _) c_Reader_isDigit (m_go ?_)
      show AW _ _ _ _ _ _ _ _ [.int (f_in (I 2 p) (nI 48) (nI 57))] _ _ _ _
      refine a_if_eq (tgt := 39) dReader_takeDigits_23 (by decide) (fun c => False.elim ((of_decide_eq_true hq) c)) (fun _ => ?_)
      refine a_aload_n 0 dReader_takeDigits_26 rfl rfl ?_
      refine a_dup dReader_takeDigits_27 rfl ?_
      refine a_geti dReader_takeDigits_28 fl7_90 rfl ly_40 (by omega) ?_
      rw [show (m_row I 40 (va_up F 9 (nI p))) 40 9 = (nI p) from rfl]
      refine a_iconstN (a := 1) dReader_takeDigits_31 (by decide) ?_
      refine a_iaddN (a := p) (b := 1) dReader_takeDigits_32 ?_
      refine a_puti dReader_takeDigits_33 fl7_90 rfl ly_40 (by omega) ?_
      rw [show m_up (m_row I 40 (va_up F 9 (nI p))) 40 9 (nI (p + 1)) = (m_row I 40 (va_up F 9 (nI (p + 1)))) from (by rw [m_up_r, show va_up (va_up F 9 (nI p)) 9 (nI (p + 1)) = (va_up F 9 (nI (p + 1))) from va_uu])]
      refine a_goto (tgt := 0) dReader_takeDigits_36 (by decide) ?_
      exact ih (p + 1) (by omega) (by rw [if_pos hq] at he; exact he)
    · refine a_aload_n 0 dReader_takeDigits_0 rfl rfl ?_
      refine a_geti dReader_takeDigits_1 fl7_90 rfl ly_40 (by omega) ?_
      rw [show (m_row I 40 (va_up F 9 (nI p))) 40 9 = (nI p) from rfl]
      refine a_aload_n 0 dReader_takeDigits_4 rfl rfl ?_
      refine a_geti dReader_takeDigits_5 fl7_46 rfl ly_40 (by omega) ?_
      rw [show (m_row I 40 (va_up F 9 (nI p))) 40 6 = (nI len) from hlen]
      refine a_icmp_geN (tgt := 39) dReader_takeDigits_8 (by decide) (by omega) (by omega) (fun c => False.elim (by omega)) (fun _ => ?_)
      refine a_aload_n 0 dReader_takeDigits_11 rfl rfl ?_
      refine a_geta (r := 2) dReader_takeDigits_12 fl7_77 rfl ly_40 (by omega) hRt ?_
      refine a_aload_n 0 dReader_takeDigits_15 rfl rfl ?_
      refine a_geti dReader_takeDigits_16 fl7_90 rfl ly_40 (by omega) ?_
      rw [show (m_row I 40 (va_up F 9 (nI p))) 40 9 = (nI p) from rfl]
      refine a_baldN (a := p) dReader_takeDigits_19 ly_2 (by omega) (by omega) (by decide) (fun hb19 => ?_)
      rw [show (m_row I 40 (va_up F 9 (nI p))) 2 p = I 2 p from rfl]
      refine a_callS (Q' := m_res (some (.int (f_in (I 2 p) (nI 48) (nI 57)))) (m_row I 40 (va_up F 9 (nI p))) J R) (as := [.int (I 2 p)]) (st := []) dReader_takeDigits_20 ml7_254 rfl (Nat.le_of_ble_eq_true rfl) (Nat.le_of_ble_eq_true rfl) rfl (Nat.le_refl _) (Nat.le_refl _) c_Reader_isDigit (m_go ?_)
      show AW _ _ _ _ _ _ _ _ [.int (f_in (I 2 p) (nI 48) (nI 57))] _ _ _ _
      refine a_if_eq (tgt := 39) dReader_takeDigits_23 (by decide) (fun _ => ?_) (fun c => False.elim (hq (decide_eq_true c)))
      rw [if_neg hq] at he
      subst he
      exact hx
theorem c_takeWord {S : Nat × (Nat → Int32)} {d n : Nat} {I : mI} {J : mJ} {R : mR} (hn : 122 ≤ n) (hR : m_fin R) (hRt : R 40 5 = some 2) {F : Nat → Int32} {len : Nat} (hlen : F 6 = nI len) (hl6 : len ≤ 600) {p : Nat} (hp : p ≤ len)  : RUN S (d + 1) YReader_takeWord [.ref 40] (m_row I 40 (va_up F 9 (nI p))) J R n none (m_row I 40 (va_up (va_up F 7 (nI 1)) 9 (nI (spW (smB (I 2)) (len - p) p)))) J R n := by
  show AW S _ YReader_takeWord n n _ 0 [(0, .ref 40)] [] (m_row I 40 (va_up F 9 (nI p))) J R n
  refine l_tkw hn hR hRt hlen hl6 ?_ (len - p) p (by omega) rfl
  refine a_aload_n 0 dReader_takeWord_39 rfl rfl ?_
  refine a_iconstN (a := 1) dReader_takeWord_40 (by decide) ?_
  refine a_puti dReader_takeWord_41 fl7_53 rfl ly_40 (by omega) ?_
  rw [show m_up (m_row I 40 (va_up F 9 (nI (spW (smB (I 2)) (len - p) p)))) 40 7 (nI 1) = (m_row I 40 (va_up (va_up F 7 (nI 1)) 9 (nI (spW (smB (I 2)) (len - p) p)))) from (by rw [m_up_r, show va_up (va_up F 9 (nI (spW (smB (I 2)) (len - p) p))) 7 (nI 1) = (va_up (va_up F 7 (nI 1)) 9 (nI (spW (smB (I 2)) (len - p) p))) from ((va_uc (by decide)).trans (congrArg (fun g => va_up g 9 (nI (spW (smB (I 2)) (len - p) p))) rfl))])]
  exact a_vret dReader_takeWord_44 rfl ⟨rfl, rfl, rfl, rfl⟩
theorem c_takeDigits {S : Nat × (Nat → Int32)} {d n : Nat} {I : mI} {J : mJ} {R : mR} (hn : 122 ≤ n) (hR : m_fin R) (hRt : R 40 5 = some 2) {F : Nat → Int32} {len : Nat} (hlen : F 6 = nI len) (hl6 : len ≤ 600) {p b : Nat} (hp : p ≤ len) (hbp : b ≤ p) (hb8 : F 8 = nI b)  : RUN S (d + 1) YReader_takeDigits [.ref 40] (m_row I 40 (va_up F 9 (nI p))) J R n none (m_row I 40 (va_up (va_up F 7 (nI (if (spW (dgB (I 2)) (len - p) p) - b ≤ 2 then 2 else 4))) 9 (nI (spW (dgB (I 2)) (len - p) p)))) J R n := by
  show AW S _ YReader_takeDigits n n _ 0 [(0, .ref 40)] [] (m_row I 40 (va_up F 9 (nI p))) J R n
  have hs9 := spW_le (q := dgB (I 2)) (len - p) p
  refine l_tkd hn hR hRt hlen hl6 ?_ (len - p) p (by omega) rfl
  refine a_aload_n 0 dReader_takeDigits_39 rfl rfl ?_
  refine a_aload_n 0 dReader_takeDigits_40 rfl rfl ?_
  refine a_geti dReader_takeDigits_41 fl7_90 rfl ly_40 (by omega) ?_
  rw [show (m_row I 40 (va_up F 9 (nI (spW (dgB (I 2)) (len - p) p)))) 40 9 = (nI (spW (dgB (I 2)) (len - p) p)) from rfl]
  refine a_aload_n 0 dReader_takeDigits_44 rfl rfl ?_
  refine a_geti dReader_takeDigits_45 fl7_63 rfl ly_40 (by omega) ?_
  rw [show (m_row I 40 (va_up F 9 (nI (spW (dgB (I 2)) (len - p) p)))) 40 8 = (nI b) from hb8]
  refine a_isubN dReader_takeDigits_48 (by omega) ?_
  refine a_iconstN (a := 2) dReader_takeDigits_49 (by decide) ?_
  refine a_icmp_gtN (tgt := 57) dReader_takeDigits_50 (by decide) (by omega) (by omega) (fun c50 => ?_) (fun c50 => ?_)
  · refine a_iconstN (a := 4) dReader_takeDigits_57 (by decide) ?_
    refine a_puti dReader_takeDigits_58 fl7_53 rfl ly_40 (by omega) ?_
    rw [show m_up (m_row I 40 (va_up F 9 (nI (spW (dgB (I 2)) (len - p) p)))) 40 7 (nI 4) = (m_row I 40 (va_up (va_up F 7 (nI 4)) 9 (nI (spW (dgB (I 2)) (len - p) p)))) from (by rw [m_up_r, show va_up (va_up F 9 (nI (spW (dgB (I 2)) (len - p) p))) 7 (nI 4) = (va_up (va_up F 7 (nI 4)) 9 (nI (spW (dgB (I 2)) (len - p) p))) from ((va_uc (by decide)).trans (congrArg (fun g => va_up g 9 (nI (spW (dgB (I 2)) (len - p) p))) rfl))])]
    exact a_vret dReader_takeDigits_61 rfl ⟨rfl, by rw [if_neg (show ¬ (spW (dgB (I 2)) (len - p) p) - b ≤ 2 by omega)], rfl, rfl⟩
  · refine a_iconstN (a := 2) dReader_takeDigits_53 (by decide) ?_
    refine a_goto (tgt := 58) dReader_takeDigits_54 (by decide) ?_
    refine a_puti dReader_takeDigits_58 fl7_53 rfl ly_40 (by omega) ?_
    rw [show m_up (m_row I 40 (va_up F 9 (nI (spW (dgB (I 2)) (len - p) p)))) 40 7 (nI 2) = (m_row I 40 (va_up (va_up F 7 (nI 2)) 9 (nI (spW (dgB (I 2)) (len - p) p)))) from (by rw [m_up_r, show va_up (va_up F 9 (nI (spW (dgB (I 2)) (len - p) p))) 7 (nI 2) = (va_up (va_up F 7 (nI 2)) 9 (nI (spW (dgB (I 2)) (len - p) p))) from ((va_uc (by decide)).trans (congrArg (fun g => va_up g 9 (nI (spW (dgB (I 2)) (len - p) p))) rfl))])]
    exact a_vret dReader_takeDigits_61 rfl ⟨rfl, by rw [if_pos (show (spW (dgB (I 2)) (len - p) p) - b ≤ 2 by omega)], rfl, rfl⟩
theorem l_tkb {S : Nat × (Nat → Int32)} {d n : Nat} {I : mI} {J : mJ} {R : mR} (hn : 122 ≤ n) (hR : m_fin R) (hRt : R 40 5 = some 2) {F : Nat → Int32} {len : Nat} (hlen : F 6 = nI len) (hl6 : len ≤ 600) {Q : Option Value → mI → mJ → mR → Prop} {e : Nat} (hx : AW S (d + 2) YReader_nextToken n n Q 31 [(1, .int (nI e)), (0, .ref 40)] [] (m_row I 40 F) J R n) : ∀ m p, p + m = len → spW (blB (I 2)) m p = e → AW S (d + 2) YReader_nextToken n n Q 5 [(1, .int (nI p)), (0, .ref 40)] [] (m_row I 40 F) J R n := by
  intro m
  induction m with
  | zero =>
    intro p hp9 he
    obtain rfl : p = len := by omega
    obtain rfl : p = e := he
    refine a_iload_n 0 dReader_nextToken_5 rfl rfl ?_
    refine a_aload_n 1 dReader_nextToken_6 rfl rfl ?_
    refine a_geti dReader_nextToken_7 fl7_46 rfl ly_40 (by omega) ?_
    rw [show (m_row I 40 F) 40 6 = (nI p) from hlen]
    refine a_icmp_geN (tgt := 31) dReader_nextToken_10 (by decide) (by omega) (by omega) (fun _ => ?_) (fun c => False.elim (by omega))
    exact hx
  | succ m ih =>
    intro p hp9 he
    unfold spW at he
    by_cases hq : blB (I 2) p = true
    · refine a_iload_n 0 dReader_nextToken_5 rfl rfl ?_
      refine a_aload_n 1 dReader_nextToken_6 rfl rfl ?_
      refine a_geti dReader_nextToken_7 fl7_46 rfl ly_40 (by omega) ?_
      rw [show (m_row I 40 F) 40 6 = (nI len) from hlen]
      refine a_icmp_geN (tgt := 31) dReader_nextToken_10 (by decide) (by omega) (by omega) (fun c => False.elim (by omega)) (fun _ => ?_)
      refine a_aload_n 1 dReader_nextToken_13 rfl rfl ?_
      refine a_geta (r := 2) dReader_nextToken_14 fl7_77 rfl ly_40 (by omega) hRt ?_
      refine a_iload_n 0 dReader_nextToken_17 rfl rfl ?_
      refine a_baldN (a := p) dReader_nextToken_18 ly_2 (by omega) (by omega) (by decide) (fun hb18 => ?_)
      rw [show (m_row I 40 F) 2 p = I 2 p from rfl]
      refine a_callS (Q' := m_res (some (.int (f_bl (I 2 p)))) (m_row I 40 F) J R) (as := [.int (I 2 p)]) (st := []) dReader_nextToken_19 ml7_245 rfl (Nat.le_of_ble_eq_true rfl) (Nat.le_of_ble_eq_true rfl) rfl (Nat.le_refl _) (Nat.le_refl _) c_Reader_isBlank (m_go ?_)
      show AW _ _ _ _ _ _ _ _ [.int (f_bl (I 2 p))] _ _ _ _
      refine a_if_eq (tgt := 31) dReader_nextToken_22 (by decide) (fun c => False.elim ((of_decide_eq_true hq) c)) (fun _ => ?_)
      refine a_iincN (lv' := [(1, .int (nI (p + 1))), (0, .ref 40)]) (j := 0) dReader_nextToken_25 rfl (by decide) rfl ?_
      refine a_goto (tgt := 5) dReader_nextToken_28 (by decide) ?_
      exact ih (p + 1) (by omega) (by rw [if_pos hq] at he; exact he)
    · refine a_iload_n 0 dReader_nextToken_5 rfl rfl ?_
      refine a_aload_n 1 dReader_nextToken_6 rfl rfl ?_
      refine a_geti dReader_nextToken_7 fl7_46 rfl ly_40 (by omega) ?_
      rw [show (m_row I 40 F) 40 6 = (nI len) from hlen]
      refine a_icmp_geN (tgt := 31) dReader_nextToken_10 (by decide) (by omega) (by omega) (fun c => False.elim (by omega)) (fun _ => ?_)
      refine a_aload_n 1 dReader_nextToken_13 rfl rfl ?_
      refine a_geta (r := 2) dReader_nextToken_14 fl7_77 rfl ly_40 (by omega) hRt ?_
      refine a_iload_n 0 dReader_nextToken_17 rfl rfl ?_
      refine a_baldN (a := p) dReader_nextToken_18 ly_2 (by omega) (by omega) (by decide) (fun hb18 => ?_)
      rw [show (m_row I 40 F) 2 p = I 2 p from rfl]
      refine a_callS (Q' := m_res (some (.int (f_bl (I 2 p)))) (m_row I 40 F) J R) (as := [.int (I 2 p)]) (st := []) dReader_nextToken_19 ml7_245 rfl (Nat.le_of_ble_eq_true rfl) (Nat.le_of_ble_eq_true rfl) rfl (Nat.le_refl _) (Nat.le_refl _) c_Reader_isBlank (m_go ?_)
      show AW _ _ _ _ _ _ _ _ [.int (f_bl (I 2 p))] _ _ _ _
      refine a_if_eq (tgt := 31) dReader_nextToken_22 (by decide) (fun _ => ?_) (fun c => False.elim (hq (decide_eq_true c)))
      rw [if_neg hq] at he
      subst he
      exact hx
abbrev tkF (T : Nat → Int32) (len p : Nat) (F : Nat → Int32) : Nat → Int32 := va_up (va_up (va_up F 7 (nI (tkS T len p))) 8 (nI (tkB T len p))) 9 (nI (tkE T len p))
theorem c_nextToken {S : Nat × (Nat → Int32)} {d n : Nat} {I : mI} {J : mJ} {R : mR} (hn : 122 ≤ n) (hR : m_fin R) (hRt : R 40 5 = some 2) {F : Nat → Int32} {len : Nat} (hlen : F 6 = nI len) (hl6 : len ≤ 600) {p : Nat} (hp : p ≤ len) (h9p : F 9 = nI p)  : RUN S (d + 2) YReader_nextToken [.ref 40] (m_row I 40 F) J R n none (m_row I 40 (tkF (I 2) len p F)) J R n := by
  show AW S _ YReader_nextToken n n _ 0 [(0, .ref 40)] [] (m_row I 40 F) J R n
  have hb9 := tkB_le (T := I 2) hp
  refine a_aload_n 0 dReader_nextToken_0 rfl rfl ?_
  refine a_geti dReader_nextToken_1 fl7_90 rfl ly_40 (by omega) ?_
  rw [show (m_row I 40 F) 40 9 = (nI p) from h9p]
  refine a_istore_n (lv' := [(1, .int (nI p)), (0, .ref 40)]) dReader_nextToken_4 rfl (by decide) rfl ?_
  refine a_locs (lv' := [(1, .int (nI p)), (0, .ref 40)]) [0, 1] rfl ?_
  refine l_tkb hn hR hRt hlen hl6 (e := (tkB (I 2) len p)) ?_ (len - p) p (by omega) rfl
  by_cases h0 : len ≤ (tkB (I 2) len p)
  · refine a_aload_n 1 dReader_nextToken_31 rfl rfl ?_
    refine a_iload_n 0 dReader_nextToken_32 rfl rfl ?_
    refine a_puti dReader_nextToken_33 fl7_63 rfl ly_40 (by omega) ?_
    rw [show m_up (m_row I 40 F) 40 8 (nI (tkB (I 2) len p)) = (m_row I 40 (va_up F 8 (nI (tkB (I 2) len p)))) from (by rw [m_up_r])]
    refine a_aload_n 1 dReader_nextToken_36 rfl rfl ?_
    refine a_iload_n 0 dReader_nextToken_37 rfl rfl ?_
    refine a_iconstN (a := 1) dReader_nextToken_38 (by decide) ?_
    refine a_iaddN (a := (tkB (I 2) len p)) (b := 1) dReader_nextToken_39 ?_
    refine a_aload_n 1 dReader_nextToken_40 rfl rfl ?_
    refine a_geti dReader_nextToken_41 fl7_46 rfl ly_40 (by omega) ?_
    rw [show (m_row I 40 (va_up F 8 (nI (tkB (I 2) len p)))) 40 6 = (nI len) from hlen]
    refine a_min dReader_nextToken_44 mm7_81 (Nat.le_of_ble_eq_true rfl) (Nat.le_refl _) ?_
    rw [show (if (nI len) < (nI ((tkB (I 2) len p) + 1)) then (nI len) else (nI ((tkB (I 2) len p) + 1))) = (nI len) from (if_pos ((nI_ltI (by omega) (by omega)).mpr (by omega)))]
    refine a_puti dReader_nextToken_47 fl7_90 rfl ly_40 (by omega) ?_
    rw [show m_up (m_row I 40 (va_up F 8 (nI (tkB (I 2) len p)))) 40 9 (nI len) = (m_row I 40 (va_up (va_up F 8 (nI (tkB (I 2) len p))) 9 (nI len))) from (by rw [m_up_r])]
    refine a_iload_n 0 dReader_nextToken_50 rfl rfl ?_
    refine a_aload_n 1 dReader_nextToken_51 rfl rfl ?_
    refine a_geti dReader_nextToken_52 fl7_46 rfl ly_40 (by omega) ?_
    rw [show (m_row I 40 (va_up (va_up F 8 (nI (tkB (I 2) len p))) 9 (nI len))) 40 6 = (nI len) from hlen]
    refine a_icmp_ltN (tgt := 66) dReader_nextToken_55 (by decide) (by omega) (by omega) (fun c => False.elim (by omega)) (fun _ => ?_)
    refine a_aload_n 1 dReader_nextToken_58 rfl rfl ?_
    refine a_iconstN (a := 0) dReader_nextToken_59 (by decide) ?_
    refine a_puti dReader_nextToken_60 fl7_53 rfl ly_40 (by omega) ?_
    rw [show m_up (m_row I 40 (va_up (va_up F 8 (nI (tkB (I 2) len p))) 9 (nI len))) 40 7 (nI 0) = (m_row I 40 (va_up (va_up (va_up F 7 (nI 0)) 8 (nI (tkB (I 2) len p))) 9 (nI len))) from (by rw [m_up_r, show va_up (va_up (va_up F 8 (nI (tkB (I 2) len p))) 9 (nI len)) 7 (nI 0) = (va_up (va_up (va_up F 7 (nI 0)) 8 (nI (tkB (I 2) len p))) 9 (nI len)) from ((va_uc (by decide)).trans (congrArg (fun g => va_up g 9 (nI len)) ((va_uc (by decide)).trans (congrArg (fun g => va_up g 8 (nI (tkB (I 2) len p))) rfl))))])]
    refine a_goto (tgt := 124) dReader_nextToken_63 (by decide) ?_
    exact a_vret dReader_nextToken_124 rfl ⟨rfl, by unfold tkF; rw [show tkS (I 2) len p = 0 from if_pos h0, show tkE (I 2) len p = len from if_pos h0], rfl, rfl⟩
  · by_cases h1 : smB (I 2) (tkB (I 2) len p) = true
    · refine a_aload_n 1 dReader_nextToken_31 rfl rfl ?_
      refine a_iload_n 0 dReader_nextToken_32 rfl rfl ?_
      refine a_puti dReader_nextToken_33 fl7_63 rfl ly_40 (by omega) ?_
      rw [show m_up (m_row I 40 F) 40 8 (nI (tkB (I 2) len p)) = (m_row I 40 (va_up F 8 (nI (tkB (I 2) len p)))) from (by rw [m_up_r])]
      refine a_aload_n 1 dReader_nextToken_36 rfl rfl ?_
      refine a_iload_n 0 dReader_nextToken_37 rfl rfl ?_
      refine a_iconstN (a := 1) dReader_nextToken_38 (by decide) ?_
      refine a_iaddN (a := (tkB (I 2) len p)) (b := 1) dReader_nextToken_39 ?_
      refine a_aload_n 1 dReader_nextToken_40 rfl rfl ?_
      refine a_geti dReader_nextToken_41 fl7_46 rfl ly_40 (by omega) ?_
      rw [show (m_row I 40 (va_up F 8 (nI (tkB (I 2) len p)))) 40 6 = (nI len) from hlen]
      refine a_min dReader_nextToken_44 mm7_81 (Nat.le_of_ble_eq_true rfl) (Nat.le_refl _) ?_
      rw [show (if (nI len) < (nI ((tkB (I 2) len p) + 1)) then (nI len) else (nI ((tkB (I 2) len p) + 1))) = (nI ((tkB (I 2) len p) + 1)) from (if_neg (fun q => absurd ((nI_ltI (by omega) (by omega)).mp q) (by omega)))]
      refine a_puti dReader_nextToken_47 fl7_90 rfl ly_40 (by omega) ?_
      rw [show m_up (m_row I 40 (va_up F 8 (nI (tkB (I 2) len p)))) 40 9 (nI ((tkB (I 2) len p) + 1)) = (m_row I 40 (va_up (va_up F 8 (nI (tkB (I 2) len p))) 9 (nI ((tkB (I 2) len p) + 1)))) from (by rw [m_up_r])]
      refine a_iload_n 0 dReader_nextToken_50 rfl rfl ?_
      refine a_aload_n 1 dReader_nextToken_51 rfl rfl ?_
      refine a_geti dReader_nextToken_52 fl7_46 rfl ly_40 (by omega) ?_
      rw [show (m_row I 40 (va_up (va_up F 8 (nI (tkB (I 2) len p))) 9 (nI ((tkB (I 2) len p) + 1)))) 40 6 = (nI len) from hlen]
      refine a_icmp_ltN (tgt := 66) dReader_nextToken_55 (by decide) (by omega) (by omega) (fun _ => ?_) (fun c => False.elim (by omega))
      refine a_aload_n 1 dReader_nextToken_66 rfl rfl ?_
      refine a_geta (r := 2) dReader_nextToken_67 fl7_77 rfl ly_40 (by omega) hRt ?_
      refine a_iload_n 0 dReader_nextToken_70 rfl rfl ?_
      refine a_baldN (a := (tkB (I 2) len p)) dReader_nextToken_71 ly_2 (by omega) (by omega) (by decide) (fun hb71 => ?_)
      rw [show (m_row I 40 (va_up (va_up F 8 (nI (tkB (I 2) len p))) 9 (nI ((tkB (I 2) len p) + 1)))) 2 (tkB (I 2) len p) = I 2 (tkB (I 2) len p) from rfl]
      refine a_callS (Q' := m_res (some (.int (f_in (I 2 (tkB (I 2) len p)) (nI 97) (nI 122)))) (m_row I 40 (va_up (va_up F 8 (nI (tkB (I 2) len p))) 9 (nI ((tkB (I 2) len p) + 1)))) J R) (as := [.int (I 2 (tkB (I 2) len p))]) (st := []) dReader_nextToken_72 ml7_248 rfl (Nat.le_of_ble_eq_true rfl) (Nat.le_of_ble_eq_true rfl) rfl (Nat.le_refl _) (Nat.le_refl _) c_Reader_isSmall (m_go ?_)
      show AW _ _ _ _ _ _ _ _ [.int (f_in (I 2 (tkB (I 2) len p)) (nI 97) (nI 122))] _ _ _ _
      refine a_if_eq (tgt := 85) dReader_nextToken_75 (by decide) (fun c => False.elim ((of_decide_eq_true h1) c)) (fun _ => ?_)
      refine a_aload_n 1 dReader_nextToken_78 rfl rfl ?_
      refine a_callV (Q' := m_res none (m_row I 40 (va_up (va_up (va_up F 7 (nI 1)) 8 (nI (tkB (I 2) len p))) 9 (nI (spW (smB (I 2)) (len - ((tkB (I 2) len p) + 1)) ((tkB (I 2) len p) + 1))))) J R) (as := []) (st := []) dReader_nextToken_79 ml7_251 rfl (Nat.le_of_ble_eq_true rfl) ly_40 rfl rfl (by decide) (by omega) (Nat.le_of_ble_eq_true rfl) rfl (Nat.le_refl _) (Nat.le_refl _) (by have h := c_takeWord (S := S) (d := d) (n := n) (J := J) (R := R) (I := I) (F := va_up F 8 (nI (tkB (I 2) len p))) (len := len) (p := (tkB (I 2) len p) + 1) hn hR hRt hlen hl6 (by omega); rw [va_uc (a := 7) (b := 8) (by decide)] at h; exact h) (m_go ?_)
      show AW _ _ _ _ _ _ _ _ [] _ _ _ _
      refine a_goto (tgt := 124) dReader_nextToken_82 (by decide) ?_
      exact a_vret dReader_nextToken_124 rfl ⟨rfl, by unfold tkF; rw [show tkS (I 2) len p = 1 from (if_neg h0).trans (if_pos h1), show tkE (I 2) len p = (spW (smB (I 2)) (len - ((tkB (I 2) len p) + 1)) ((tkB (I 2) len p) + 1)) from (if_neg h0).trans (if_pos h1)], rfl, rfl⟩
    · by_cases h2 : dgB (I 2) (tkB (I 2) len p) = true
      · refine a_aload_n 1 dReader_nextToken_31 rfl rfl ?_
        refine a_iload_n 0 dReader_nextToken_32 rfl rfl ?_
        refine a_puti dReader_nextToken_33 fl7_63 rfl ly_40 (by omega) ?_
        rw [show m_up (m_row I 40 F) 40 8 (nI (tkB (I 2) len p)) = (m_row I 40 (va_up F 8 (nI (tkB (I 2) len p)))) from (by rw [m_up_r])]
        refine a_aload_n 1 dReader_nextToken_36 rfl rfl ?_
        refine a_iload_n 0 dReader_nextToken_37 rfl rfl ?_
        refine a_iconstN (a := 1) dReader_nextToken_38 (by decide) ?_
        refine a_iaddN (a := (tkB (I 2) len p)) (b := 1) dReader_nextToken_39 ?_
        refine a_aload_n 1 dReader_nextToken_40 rfl rfl ?_
        refine a_geti dReader_nextToken_41 fl7_46 rfl ly_40 (by omega) ?_
        rw [show (m_row I 40 (va_up F 8 (nI (tkB (I 2) len p)))) 40 6 = (nI len) from hlen]
        refine a_min dReader_nextToken_44 mm7_81 (Nat.le_of_ble_eq_true rfl) (Nat.le_refl _) ?_
        rw [show (if (nI len) < (nI ((tkB (I 2) len p) + 1)) then (nI len) else (nI ((tkB (I 2) len p) + 1))) = (nI ((tkB (I 2) len p) + 1)) from (if_neg (fun q => absurd ((nI_ltI (by omega) (by omega)).mp q) (by omega)))]
        refine a_puti dReader_nextToken_47 fl7_90 rfl ly_40 (by omega) ?_
        rw [show m_up (m_row I 40 (va_up F 8 (nI (tkB (I 2) len p)))) 40 9 (nI ((tkB (I 2) len p) + 1)) = (m_row I 40 (va_up (va_up F 8 (nI (tkB (I 2) len p))) 9 (nI ((tkB (I 2) len p) + 1)))) from (by rw [m_up_r])]
        refine a_iload_n 0 dReader_nextToken_50 rfl rfl ?_
        refine a_aload_n 1 dReader_nextToken_51 rfl rfl ?_
        refine a_geti dReader_nextToken_52 fl7_46 rfl ly_40 (by omega) ?_
        rw [show (m_row I 40 (va_up (va_up F 8 (nI (tkB (I 2) len p))) 9 (nI ((tkB (I 2) len p) + 1)))) 40 6 = (nI len) from hlen]
        refine a_icmp_ltN (tgt := 66) dReader_nextToken_55 (by decide) (by omega) (by omega) (fun _ => ?_) (fun c => False.elim (by omega))
        refine a_aload_n 1 dReader_nextToken_66 rfl rfl ?_
        refine a_geta (r := 2) dReader_nextToken_67 fl7_77 rfl ly_40 (by omega) hRt ?_
        refine a_iload_n 0 dReader_nextToken_70 rfl rfl ?_
        refine a_baldN (a := (tkB (I 2) len p)) dReader_nextToken_71 ly_2 (by omega) (by omega) (by decide) (fun hb71 => ?_)
        rw [show (m_row I 40 (va_up (va_up F 8 (nI (tkB (I 2) len p))) 9 (nI ((tkB (I 2) len p) + 1)))) 2 (tkB (I 2) len p) = I 2 (tkB (I 2) len p) from rfl]
        refine a_callS (Q' := m_res (some (.int (f_in (I 2 (tkB (I 2) len p)) (nI 97) (nI 122)))) (m_row I 40 (va_up (va_up F 8 (nI (tkB (I 2) len p))) 9 (nI ((tkB (I 2) len p) + 1)))) J R) (as := [.int (I 2 (tkB (I 2) len p))]) (st := []) dReader_nextToken_72 ml7_248 rfl (Nat.le_of_ble_eq_true rfl) (Nat.le_of_ble_eq_true rfl) rfl (Nat.le_refl _) (Nat.le_refl _) c_Reader_isSmall (m_go ?_)
        show AW _ _ _ _ _ _ _ _ [.int (f_in (I 2 (tkB (I 2) len p)) (nI 97) (nI 122))] _ _ _ _
        refine a_if_eq (tgt := 85) dReader_nextToken_75 (by decide) (fun _ => ?_) (fun c => False.elim (h1 (decide_eq_true c)))
        refine a_aload_n 1 dReader_nextToken_85 rfl rfl ?_
        refine a_geta (r := 2) dReader_nextToken_86 fl7_77 rfl ly_40 (by omega) hRt ?_
        refine a_iload_n 0 dReader_nextToken_89 rfl rfl ?_
        refine a_baldN (a := (tkB (I 2) len p)) dReader_nextToken_90 ly_2 (by omega) (by omega) (by decide) (fun hb90 => ?_)
        rw [show (m_row I 40 (va_up (va_up F 8 (nI (tkB (I 2) len p))) 9 (nI ((tkB (I 2) len p) + 1)))) 2 (tkB (I 2) len p) = I 2 (tkB (I 2) len p) from rfl]
        refine a_callS (Q' := m_res (some (.int (f_in (I 2 (tkB (I 2) len p)) (nI 48) (nI 57)))) (m_row I 40 (va_up (va_up F 8 (nI (tkB (I 2) len p))) 9 (nI ((tkB (I 2) len p) + 1)))) J R) (as := [.int (I 2 (tkB (I 2) len p))]) (st := []) dReader_nextToken_91 ml7_254 rfl (Nat.le_of_ble_eq_true rfl) (Nat.le_of_ble_eq_true rfl) rfl (Nat.le_refl _) (Nat.le_refl _) c_Reader_isDigit (m_go ?_)
        show AW _ _ _ _ _ _ _ _ [.int (f_in (I 2 (tkB (I 2) len p)) (nI 48) (nI 57))] _ _ _ _
        refine a_if_eq (tgt := 104) dReader_nextToken_94 (by decide) (fun c => False.elim ((of_decide_eq_true h2) c)) (fun _ => ?_)
        refine a_aload_n 1 dReader_nextToken_97 rfl rfl ?_
        refine a_callV (Q' := m_res none (m_row I 40 (va_up (va_up (va_up F 7 (nI (if (spW (dgB (I 2)) (len - ((tkB (I 2) len p) + 1)) ((tkB (I 2) len p) + 1)) - (tkB (I 2) len p) ≤ 2 then 2 else 4))) 8 (nI (tkB (I 2) len p))) 9 (nI (spW (dgB (I 2)) (len - ((tkB (I 2) len p) + 1)) ((tkB (I 2) len p) + 1))))) J R) (as := []) (st := []) dReader_nextToken_98 ml7_257 rfl (Nat.le_of_ble_eq_true rfl) ly_40 rfl rfl (by decide) (by omega) (Nat.le_of_ble_eq_true rfl) rfl (Nat.le_refl _) (Nat.le_refl _) (by have h := c_takeDigits (S := S) (d := d) (n := n) (J := J) (R := R) (I := I) (F := va_up F 8 (nI (tkB (I 2) len p))) (len := len) (p := (tkB (I 2) len p) + 1) (b := (tkB (I 2) len p)) hn hR hRt hlen hl6 (by omega) (by omega) rfl; rw [va_uc (a := 7) (b := 8) (by decide)] at h; exact h) (m_go ?_)
        show AW _ _ _ _ _ _ _ _ [] _ _ _ _
        refine a_goto (tgt := 124) dReader_nextToken_101 (by decide) ?_
        exact a_vret dReader_nextToken_124 rfl ⟨rfl, by unfold tkF; rw [show tkS (I 2) len p = (if (spW (dgB (I 2)) (len - ((tkB (I 2) len p) + 1)) ((tkB (I 2) len p) + 1)) - (tkB (I 2) len p) ≤ 2 then 2 else 4) from (((if_neg h0).trans (if_neg h1)).trans (if_pos h2)).trans (by rw [show tkE (I 2) len p = (spW (dgB (I 2)) (len - ((tkB (I 2) len p) + 1)) ((tkB (I 2) len p) + 1)) from ((if_neg h0).trans (if_neg h1)).trans (if_pos h2)]), show tkE (I 2) len p = (spW (dgB (I 2)) (len - ((tkB (I 2) len p) + 1)) ((tkB (I 2) len p) + 1)) from ((if_neg h0).trans (if_neg h1)).trans (if_pos h2)], rfl, rfl⟩
      · refine a_aload_n 1 dReader_nextToken_31 rfl rfl ?_
        refine a_iload_n 0 dReader_nextToken_32 rfl rfl ?_
        refine a_puti dReader_nextToken_33 fl7_63 rfl ly_40 (by omega) ?_
        rw [show m_up (m_row I 40 F) 40 8 (nI (tkB (I 2) len p)) = (m_row I 40 (va_up F 8 (nI (tkB (I 2) len p)))) from (by rw [m_up_r])]
        refine a_aload_n 1 dReader_nextToken_36 rfl rfl ?_
        refine a_iload_n 0 dReader_nextToken_37 rfl rfl ?_
        refine a_iconstN (a := 1) dReader_nextToken_38 (by decide) ?_
        refine a_iaddN (a := (tkB (I 2) len p)) (b := 1) dReader_nextToken_39 ?_
        refine a_aload_n 1 dReader_nextToken_40 rfl rfl ?_
        refine a_geti dReader_nextToken_41 fl7_46 rfl ly_40 (by omega) ?_
        rw [show (m_row I 40 (va_up F 8 (nI (tkB (I 2) len p)))) 40 6 = (nI len) from hlen]
        refine a_min dReader_nextToken_44 mm7_81 (Nat.le_of_ble_eq_true rfl) (Nat.le_refl _) ?_
        rw [show (if (nI len) < (nI ((tkB (I 2) len p) + 1)) then (nI len) else (nI ((tkB (I 2) len p) + 1))) = (nI ((tkB (I 2) len p) + 1)) from (if_neg (fun q => absurd ((nI_ltI (by omega) (by omega)).mp q) (by omega)))]
        refine a_puti dReader_nextToken_47 fl7_90 rfl ly_40 (by omega) ?_
        rw [show m_up (m_row I 40 (va_up F 8 (nI (tkB (I 2) len p)))) 40 9 (nI ((tkB (I 2) len p) + 1)) = (m_row I 40 (va_up (va_up F 8 (nI (tkB (I 2) len p))) 9 (nI ((tkB (I 2) len p) + 1)))) from (by rw [m_up_r])]
        refine a_iload_n 0 dReader_nextToken_50 rfl rfl ?_
        refine a_aload_n 1 dReader_nextToken_51 rfl rfl ?_
        refine a_geti dReader_nextToken_52 fl7_46 rfl ly_40 (by omega) ?_
        rw [show (m_row I 40 (va_up (va_up F 8 (nI (tkB (I 2) len p))) 9 (nI ((tkB (I 2) len p) + 1)))) 40 6 = (nI len) from hlen]
        refine a_icmp_ltN (tgt := 66) dReader_nextToken_55 (by decide) (by omega) (by omega) (fun _ => ?_) (fun c => False.elim (by omega))
        refine a_aload_n 1 dReader_nextToken_66 rfl rfl ?_
        refine a_geta (r := 2) dReader_nextToken_67 fl7_77 rfl ly_40 (by omega) hRt ?_
        refine a_iload_n 0 dReader_nextToken_70 rfl rfl ?_
        refine a_baldN (a := (tkB (I 2) len p)) dReader_nextToken_71 ly_2 (by omega) (by omega) (by decide) (fun hb71 => ?_)
        rw [show (m_row I 40 (va_up (va_up F 8 (nI (tkB (I 2) len p))) 9 (nI ((tkB (I 2) len p) + 1)))) 2 (tkB (I 2) len p) = I 2 (tkB (I 2) len p) from rfl]
        refine a_callS (Q' := m_res (some (.int (f_in (I 2 (tkB (I 2) len p)) (nI 97) (nI 122)))) (m_row I 40 (va_up (va_up F 8 (nI (tkB (I 2) len p))) 9 (nI ((tkB (I 2) len p) + 1)))) J R) (as := [.int (I 2 (tkB (I 2) len p))]) (st := []) dReader_nextToken_72 ml7_248 rfl (Nat.le_of_ble_eq_true rfl) (Nat.le_of_ble_eq_true rfl) rfl (Nat.le_refl _) (Nat.le_refl _) c_Reader_isSmall (m_go ?_)
        show AW _ _ _ _ _ _ _ _ [.int (f_in (I 2 (tkB (I 2) len p)) (nI 97) (nI 122))] _ _ _ _
        refine a_if_eq (tgt := 85) dReader_nextToken_75 (by decide) (fun _ => ?_) (fun c => False.elim (h1 (decide_eq_true c)))
        refine a_aload_n 1 dReader_nextToken_85 rfl rfl ?_
        refine a_geta (r := 2) dReader_nextToken_86 fl7_77 rfl ly_40 (by omega) hRt ?_
        refine a_iload_n 0 dReader_nextToken_89 rfl rfl ?_
        refine a_baldN (a := (tkB (I 2) len p)) dReader_nextToken_90 ly_2 (by omega) (by omega) (by decide) (fun hb90 => ?_)
        rw [show (m_row I 40 (va_up (va_up F 8 (nI (tkB (I 2) len p))) 9 (nI ((tkB (I 2) len p) + 1)))) 2 (tkB (I 2) len p) = I 2 (tkB (I 2) len p) from rfl]
        refine a_callS (Q' := m_res (some (.int (f_in (I 2 (tkB (I 2) len p)) (nI 48) (nI 57)))) (m_row I 40 (va_up (va_up F 8 (nI (tkB (I 2) len p))) 9 (nI ((tkB (I 2) len p) + 1)))) J R) (as := [.int (I 2 (tkB (I 2) len p))]) (st := []) dReader_nextToken_91 ml7_254 rfl (Nat.le_of_ble_eq_true rfl) (Nat.le_of_ble_eq_true rfl) rfl (Nat.le_refl _) (Nat.le_refl _) c_Reader_isDigit (m_go ?_)
        show AW _ _ _ _ _ _ _ _ [.int (f_in (I 2 (tkB (I 2) len p)) (nI 48) (nI 57))] _ _ _ _
        refine a_if_eq (tgt := 104) dReader_nextToken_94 (by decide) (fun _ => ?_) (fun c => False.elim (h2 (decide_eq_true c)))
        refine a_aload_n 1 dReader_nextToken_104 rfl rfl ?_
        refine a_aload_n 1 dReader_nextToken_105 rfl rfl ?_
        refine a_geta (r := 2) dReader_nextToken_106 fl7_77 rfl ly_40 (by omega) hRt ?_
        refine a_iload_n 0 dReader_nextToken_109 rfl rfl ?_
        refine a_baldN (a := (tkB (I 2) len p)) dReader_nextToken_110 ly_2 (by omega) (by omega) (by decide) (fun hb110 => ?_)
        rw [show (m_row I 40 (va_up (va_up F 8 (nI (tkB (I 2) len p))) 9 (nI ((tkB (I 2) len p) + 1)))) 2 (tkB (I 2) len p) = I 2 (tkB (I 2) len p) from rfl]
        refine a_bipushN (a := 59) dReader_nextToken_111 (by decide) ?_
        refine a_icmp_ne (tgt := 120) dReader_nextToken_113 (by decide) (fun c113 => ?_) (fun c113 => ?_)
        · refine a_iconstN (a := 4) dReader_nextToken_120 (by decide) ?_
          refine a_puti dReader_nextToken_121 fl7_53 rfl ly_40 (by omega) ?_
          rw [show m_up (m_row I 40 (va_up (va_up F 8 (nI (tkB (I 2) len p))) 9 (nI ((tkB (I 2) len p) + 1)))) 40 7 (nI 4) = (m_row I 40 (va_up (va_up (va_up F 7 (nI 4)) 8 (nI (tkB (I 2) len p))) 9 (nI ((tkB (I 2) len p) + 1)))) from (by rw [m_up_r, show va_up (va_up (va_up F 8 (nI (tkB (I 2) len p))) 9 (nI ((tkB (I 2) len p) + 1))) 7 (nI 4) = (va_up (va_up (va_up F 7 (nI 4)) 8 (nI (tkB (I 2) len p))) 9 (nI ((tkB (I 2) len p) + 1))) from ((va_uc (by decide)).trans (congrArg (fun g => va_up g 9 (nI ((tkB (I 2) len p) + 1))) ((va_uc (by decide)).trans (congrArg (fun g => va_up g 8 (nI (tkB (I 2) len p))) rfl))))])]
          exact a_vret dReader_nextToken_124 rfl ⟨rfl, by unfold tkF; rw [show tkS (I 2) len p = 4 from (((if_neg h0).trans (if_neg h1)).trans (if_neg h2)).trans (if_neg c113), show tkE (I 2) len p = (tkB (I 2) len p) + 1 from ((if_neg h0).trans (if_neg h1)).trans (if_neg h2)], rfl, rfl⟩
        · refine a_iconstN (a := 3) dReader_nextToken_116 (by decide) ?_
          refine a_goto (tgt := 121) dReader_nextToken_117 (by decide) ?_
          refine a_puti dReader_nextToken_121 fl7_53 rfl ly_40 (by omega) ?_
          rw [show m_up (m_row I 40 (va_up (va_up F 8 (nI (tkB (I 2) len p))) 9 (nI ((tkB (I 2) len p) + 1)))) 40 7 (nI 3) = (m_row I 40 (va_up (va_up (va_up F 7 (nI 3)) 8 (nI (tkB (I 2) len p))) 9 (nI ((tkB (I 2) len p) + 1)))) from (by rw [m_up_r, show va_up (va_up (va_up F 8 (nI (tkB (I 2) len p))) 9 (nI ((tkB (I 2) len p) + 1))) 7 (nI 3) = (va_up (va_up (va_up F 7 (nI 3)) 8 (nI (tkB (I 2) len p))) 9 (nI ((tkB (I 2) len p) + 1))) from ((va_uc (by decide)).trans (congrArg (fun g => va_up g 9 (nI ((tkB (I 2) len p) + 1))) ((va_uc (by decide)).trans (congrArg (fun g => va_up g 8 (nI (tkB (I 2) len p))) rfl))))])]
          exact a_vret dReader_nextToken_124 rfl ⟨rfl, by unfold tkF; rw [show tkS (I 2) len p = 3 from (((if_neg h0).trans (if_neg h1)).trans (if_neg h2)).trans (if_pos c113), show tkE (I 2) len p = (tkB (I 2) len p) + 1 from ((if_neg h0).trans (if_neg h1)).trans (if_neg h2)], rfl, rfl⟩
