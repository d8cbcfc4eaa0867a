/-- the reference's memory while it reads -/
abbrev mRd (I : mI) (F D A : Nat → Int32) : mI := m_row (m_row (m_row I 95 F) 104 D) 105 A
theorem mRd_c {I : mI} {F D A : Nat → Int32} : m_row (m_row (m_row I 104 D) 105 A) 95 F = mRd I F D A := by
  funext a
  unfold mRd m_row
  by_cases h1 : a = 95
  · simp [h1]
  · simp [h1]
def RS (T : Nat → Int32) (len p : Nat) (x : Nat × Nat) (gh gl g : Int32) (F : Nat → Int32) : Prop := (F 9 = nI (tkE T len p)) ∧ (F 10 = nI len) ∧ (F 11 = nI (tkB T len p)) ∧ (F 12 = nI (rsS (tkS T len p))) ∧ (tkS T len p = 2 → F 13 = nI (vN T len p)) ∧ (x.1 < 5) ∧ (F 16 = nI x.1) ∧ (¬ x.1 = 0 → F 17 = nI x.2) ∧ (¬ x.1 = 0 → x.2 < p) ∧ (F 20 = gh) ∧ (F 21 = gl) ∧ (F 22 = g)
theorem RS.mk {T : Nat → Int32} {len p : Nat} {x : Nat × Nat} {gh gl g : Int32} {F : Nat → Int32} (h9_9 : F 9 = nI (tkE T len p)) (h10_9 : F 10 = nI len) (h11_9 : F 11 = nI (tkB T len p)) (h12_9 : F 12 = nI (rsS (tkS T len p))) (h13_9 : tkS T len p = 2 → F 13 = nI (vN T len p)) (f5_9 : x.1 < 5) (h16_9 : F 16 = nI x.1) (h17_9 : ¬ x.1 = 0 → F 17 = nI x.2) (hlp_9 : ¬ x.1 = 0 → x.2 < p) (h20_9 : F 20 = gh) (h21_9 : F 21 = gl) (h22_9 : F 22 = g) : RS T len p x gh gl g F := ⟨h9_9, h10_9, h11_9, h12_9, h13_9, f5_9, h16_9, h17_9, hlp_9, h20_9, h21_9, h22_9⟩
theorem RS.h9 {T : Nat → Int32} {len p : Nat} {x : Nat × Nat} {gh gl g : Int32} {F : Nat → Int32} (h : RS T len p x gh gl g F) : F 9 = nI (tkE T len p) := h.1
theorem RS.h10 {T : Nat → Int32} {len p : Nat} {x : Nat × Nat} {gh gl g : Int32} {F : Nat → Int32} (h : RS T len p x gh gl g F) : F 10 = nI len := h.2.1
theorem RS.h11 {T : Nat → Int32} {len p : Nat} {x : Nat × Nat} {gh gl g : Int32} {F : Nat → Int32} (h : RS T len p x gh gl g F) : F 11 = nI (tkB T len p) := h.2.2.1
theorem RS.h12 {T : Nat → Int32} {len p : Nat} {x : Nat × Nat} {gh gl g : Int32} {F : Nat → Int32} (h : RS T len p x gh gl g F) : F 12 = nI (rsS (tkS T len p)) := h.2.2.2.1
theorem RS.h13 {T : Nat → Int32} {len p : Nat} {x : Nat × Nat} {gh gl g : Int32} {F : Nat → Int32} (h : RS T len p x gh gl g F) : tkS T len p = 2 → F 13 = nI (vN T len p) := h.2.2.2.2.1
theorem RS.f5 {T : Nat → Int32} {len p : Nat} {x : Nat × Nat} {gh gl g : Int32} {F : Nat → Int32} (h : RS T len p x gh gl g F) : x.1 < 5 := h.2.2.2.2.2.1
theorem RS.h16 {T : Nat → Int32} {len p : Nat} {x : Nat × Nat} {gh gl g : Int32} {F : Nat → Int32} (h : RS T len p x gh gl g F) : F 16 = nI x.1 := h.2.2.2.2.2.2.1
theorem RS.h17 {T : Nat → Int32} {len p : Nat} {x : Nat × Nat} {gh gl g : Int32} {F : Nat → Int32} (h : RS T len p x gh gl g F) : ¬ x.1 = 0 → F 17 = nI x.2 := h.2.2.2.2.2.2.2.1
theorem RS.hlp {T : Nat → Int32} {len p : Nat} {x : Nat × Nat} {gh gl g : Int32} {F : Nat → Int32} (h : RS T len p x gh gl g F) : ¬ x.1 = 0 → x.2 < p := h.2.2.2.2.2.2.2.2.1
theorem RS.h20 {T : Nat → Int32} {len p : Nat} {x : Nat × Nat} {gh gl g : Int32} {F : Nat → Int32} (h : RS T len p x gh gl g F) : F 20 = gh := h.2.2.2.2.2.2.2.2.2.1
theorem RS.h21 {T : Nat → Int32} {len p : Nat} {x : Nat × Nat} {gh gl g : Int32} {F : Nat → Int32} (h : RS T len p x gh gl g F) : F 21 = gl := h.2.2.2.2.2.2.2.2.2.2.1
theorem RS.h22 {T : Nat → Int32} {len p : Nat} {x : Nat × Nat} {gh gl g : Int32} {F : Nat → Int32} (h : RS T len p x gh gl g F) : F 22 = g := h.2.2.2.2.2.2.2.2.2.2.2
theorem RS_tk {T : Nat → Int32} {len p : Nat} {x : Nat × Nat} {gh gl g : Int32} {F : Nat → Int32} (hby : byT T len) (hp : p ≤ len) (h10 : F 10 = nI len) (f5 : x.1 < 5) (h16 : F 16 = nI x.1) (h17 : ¬ x.1 = 0 → F 17 = nI x.2) (hlp : ¬ x.1 = 0 → x.2 < p) (h20 : F 20 = gh) (h21 : F 21 = gl) (h22 : F 22 = g) : RS T len p x gh gl g (tkG T len p F) :=
  RS.mk rfl h10 rfl rfl (fun h => tkV_vN hby hp h) f5 h16 h17 hlp h20 h21 h22
/-- the first fault stays -/
def s1 (x : Nat × Nat) (c : Bool) (y : Nat × Nat) : Nat × Nat := if x.1 = 0 ∧ c = true then y else x
def ltF (x : Nat × Nat) (F : Nat → Int32) (f q : Nat) : Nat → Int32 := if x.1 = 0 then va_up (va_up F 16 (nI f)) 17 (nI q) else F
theorem ltF_o {x : Nat × Nat} {F : Nat → Int32} {f q k : Nat} (h1 : k ≠ 16) (h2 : k ≠ 17) : ltF x F f q k = F k := by
  unfold ltF
  by_cases z : x.1 = 0
  · rw [if_pos z, va_up_ne _ _ h2, va_up_ne _ _ h1]
  · rw [if_neg z]
theorem ltF_s {x : Nat × Nat} {F : Nat → Int32} {f q : Nat} (f5 : x.1 < 5) (hf : f < 5) (h16 : F 16 = nI x.1) (h17 : ¬ x.1 = 0 → F 17 = nI x.2) : (s1 x true (f, q)).1 < 5 ∧ ltF x F f q 16 = nI (s1 x true (f, q)).1 ∧ (¬ (s1 x true (f, q)).1 = 0 → ltF x F f q 17 = nI (s1 x true (f, q)).2) := by
  unfold ltF s1
  by_cases z : x.1 = 0
  · rw [if_pos z, if_pos ⟨z, rfl⟩]
    exact ⟨hf, by rw [va_up_ne _ _ (by decide), va_up_self], fun _ => va_up_self _ _ _⟩
  · rw [if_neg z, if_neg (fun q => z q.1)]
    exact ⟨f5, h16, h17⟩
theorem s1_lt {x : Nat × Nat} {c : Bool} {f q p : Nat} (hx : ¬ x.1 = 0 → x.2 < p) (hq : q < p) : ¬ (s1 x c (f, q)).1 = 0 → (s1 x c (f, q)).2 < p := by
  unfold s1
  by_cases z : x.1 = 0 ∧ c = true
  · rw [if_pos z]; exact fun _ => hq
  · rw [if_neg z]; exact hx
theorem s1_f {x : Nat × Nat} {y : Nat × Nat} : s1 x false y = x := by
  unfold s1; rw [if_neg (fun q => Bool.false_ne_true q.2)]
theorem f_in_bd {v lo hi : Nat} (hv : v < 100) (hl : lo < 100) (hh : hi < 100) : f_in (nI v) (nI lo) (nI hi) = if bdB v lo hi = true then 0 else 1 := by
  unfold f_in bdB
  by_cases c1 : v < lo
  · rw [if_pos ((nI_ltI (by omega) (by omega)).mpr c1), if_pos (decide_eq_true (Or.inl c1))]
  · rw [if_neg (fun q => c1 ((nI_ltI (by omega) (by omega)).mp q))]
    by_cases c2 : hi < v
    · rw [if_pos ((nI_ltI (by omega) (by omega)).mpr c2), if_pos (decide_eq_true (Or.inr c2))]
    · rw [if_neg (fun q => c2 ((nI_ltI (by omega) (by omega)).mp q)), if_neg (by rw [decide_eq_true_iff]; omega)]
theorem rsS_3 {s : Nat} : rsS s = 3 ↔ s = 2 := by
  unfold rsS
  by_cases h0 : s = 0
  · rw [if_pos h0]; omega
  · rw [if_neg h0]
    by_cases h1 : s = 1
    · rw [if_pos h1]; omega
    · rw [if_neg h1]
      by_cases h2 : s = 2
      · rw [if_pos h2]; omega
      · rw [if_neg h2]
        by_cases h3 : s = 3
        · rw [if_pos h3]; omega
        · rw [if_neg h3]; omega
theorem rsS_2 {s : Nat} : rsS s = 2 ↔ s = 1 := by
  unfold rsS
  by_cases h0 : s = 0
  · rw [if_pos h0]; omega
  · rw [if_neg h0]
    by_cases h1 : s = 1
    · rw [if_pos h1]; omega
    · rw [if_neg h1]
      by_cases h2 : s = 2
      · rw [if_pos h2]; omega
      · rw [if_neg h2]
        by_cases h3 : s = 3
        · rw [if_pos h3]; omega
        · rw [if_neg h3]; omega
theorem rsS_4 {s : Nat} : rsS s = 4 ↔ s = 3 := by
  unfold rsS
  by_cases h0 : s = 0
  · rw [if_pos h0]; omega
  · rw [if_neg h0]
    by_cases h1 : s = 1
    · rw [if_pos h1]; omega
    · rw [if_neg h1]
      by_cases h2 : s = 2
      · rw [if_pos h2]; omega
      · rw [if_neg h2]
        by_cases h3 : s = 3
        · rw [if_pos h3]; omega
        · rw [if_neg h3]; omega
theorem rsS_0 {s : Nat} : rsS s = 0 ↔ s = 0 := by
  unfold rsS
  by_cases h0 : s = 0
  · rw [if_pos h0]; omega
  · rw [if_neg h0]
    by_cases h1 : s = 1
    · rw [if_pos h1]; omega
    · rw [if_neg h1]
      by_cases h2 : s = 2
      · rw [if_pos h2]; omega
      · rw [if_neg h2]
        by_cases h3 : s = 3
        · rw [if_pos h3]; omega
        · rw [if_neg h3]; omega
theorem rsS_le {s : Nat} : rsS s ≤ 4 := by
  unfold rsS
  split
  · omega
  · split
    · omega
    · split
      · omega
      · split <;> omega
theorem gr_mx {g : Int32} {v : Nat} : f_gr g (nI v) = mxI g v := by
  unfold f_gr mxI
  by_cases h : g < nI v
  · rw [if_pos h]
    by_cases q : g ≤ nI v
    · first | rw [if_pos q] | rw [if_neg (fun r => absurd q (Int32.not_le.mpr r))]
    · exact absurd (Int32.le_of_lt h) q
  · rw [if_neg h]
    by_cases q : g ≤ nI v
    · have e : g = nI v := Int32.le_antisymm q (Int32.not_lt.mp h)
      subst e
      simp
    · first | rw [if_neg q] | rw [if_pos (Int32.not_le.mp q)]
theorem c_tok {S : Nat × (Nat → Int32)} {d n : Nat} {I : mI} {J : mJ} {R : mR} (hn : 122 ≤ n) (hR : m_fin R) {len : Nat} (hl6 : len ≤ 600) (hby : byT (I 96) len) {F D A : Nat → Int32} {p : Nat} (hp : p ≤ len) (h9 : F 9 = nI p) (h10 : F 10 = nI len) {w : Int64} : RUN S (d + 1) YM_token [.ref 95] (m_row (m_row (m_row I 95 F) 104 D) 105 A) (m_up J 95 14 w) R n none (mRd I (tkG (I 96) len p F) D A) (m_up J 95 14 (tkW (I 96) len p)) R n := by
  have h := c_M_token (S := S) (d := d) (n := n) (I := m_row (m_row I 104 D) 105 A) (J := m_up J 95 14 w) (R := R) (F := F) hn hR h10 hl6 hby hp h9
  rw [mRd_c, mRd_c, mJ_uu] at h
  exact h
theorem c_later {S : Nat × (Nat → Int32)} {d n : Nat} {I : mI} {J : mJ} {R : mR} (hn : 122 ≤ n) (hR : m_fin R) {F D A : Nat → Int32} {x : Nat × Nat} (f5 : x.1 < 5) (h16 : F 16 = nI x.1) (h17 : ¬ x.1 = 0 → F 17 = nI x.2) {f q : Nat} (hq : q < 1000) (hlp : ¬ x.1 = 0 → x.2 < q) : RUN S d YM_later [.ref 95, .int (nI f), .int (nI q)] (m_row (m_row (m_row I 95 F) 104 D) 105 A) J R n none (mRd I (ltF x F f q) D A) J R n := by
  show AW S _ YM_later n n _ 0 [(0, .ref 95), (1, .int (nI f)), (2, .int (nI q))] [] (m_row (m_row (m_row I 95 F) 104 D) 105 A) J R n
  unfold ltF
  by_cases z : x.1 = 0
  · refine a_aload_n 0 dM_later_0 rfl rfl ?_
    refine a_geti dM_later_1 fl12_136 rfl ly_95 (by omega) ?_
    rw [show (m_row (m_row (m_row I 95 F) 104 D) 105 A) 95 16 = (nI x.1) from h16]
    refine a_if_eq (tgt := 31) dM_later_4 (by decide) (fun _ => ?_) (fun c => False.elim (c (by rw [z]; rfl)))
    refine a_aload_n 0 dM_later_31 rfl rfl ?_
    refine a_iload_n 1 dM_later_32 rfl rfl ?_
    refine a_puti dM_later_33 fl12_136 rfl ly_95 (by omega) ?_
    rw [show m_up (m_row (m_row (m_row I 95 F) 104 D) 105 A) 95 16 (nI f) = (m_row (m_row (m_row I 95 (va_up F 16 (nI f))) 104 D) 105 A) from (by rw [m_up_comm (by decide), m_up_comm (by decide), m_up_r])]
    refine a_aload_n 0 dM_later_36 rfl rfl ?_
    refine a_iload_n 2 dM_later_37 rfl rfl ?_
    refine a_puti dM_later_38 fl12_139 rfl ly_95 (by omega) ?_
    rw [show m_up (m_row (m_row (m_row I 95 (va_up F 16 (nI f))) 104 D) 105 A) 95 17 (nI q) = (m_row (m_row (m_row I 95 (va_up (va_up F 16 (nI f)) 17 (nI q))) 104 D) 105 A) from (by rw [m_up_comm (by decide), m_up_comm (by decide), m_up_r])]
    exact a_vret dM_later_41 rfl ⟨rfl, (by rw [if_pos z]), rfl, rfl⟩
  · have h17z := h17 z
    have hlz := hlp z
    refine a_aload_n 0 dM_later_0 rfl rfl ?_
    refine a_geti dM_later_1 fl12_136 rfl ly_95 (by omega) ?_
    rw [show (m_row (m_row (m_row I 95 F) 104 D) 105 A) 95 16 = (nI x.1) from h16]
    refine a_if_eq (tgt := 31) dM_later_4 (by decide) (fun c => False.elim (z ((nI_eq (by omega) (by decide)).mp c))) (fun _ => ?_)
    refine a_iload_n 2 dM_later_7 rfl rfl ?_
    refine a_aload_n 0 dM_later_8 rfl rfl ?_
    refine a_geti dM_later_9 fl12_139 rfl ly_95 (by omega) ?_
    rw [show (m_row (m_row (m_row I 95 F) 104 D) 105 A) 95 17 = (nI x.2) from h17z]
    refine a_icmp_ltN (tgt := 31) dM_later_12 (by decide) (by omega) (by omega) (fun c => False.elim (by omega)) (fun _ => ?_)
    refine a_iload_n 2 dM_later_15 rfl rfl ?_
    refine a_aload_n 0 dM_later_16 rfl rfl ?_
    refine a_geti dM_later_17 fl12_139 rfl ly_95 (by omega) ?_
    rw [show (m_row (m_row (m_row I 95 F) 104 D) 105 A) 95 17 = (nI x.2) from h17z]
    refine a_icmp_neN (tgt := 41) dM_later_20 (by decide) (by omega) (by omega) (fun _ => ?_) (fun c => False.elim (by omega))
    exact a_vret dM_later_41 rfl ⟨rfl, (by rw [if_neg z]), rfl, rfl⟩
theorem c_fails {S : Nat × (Nat → Int32)} {d n : Nat} {I : mI} {J : mJ} {R : mR} (hn : 122 ≤ n) (hR : m_fin R) {F D A : Nat → Int32}  : RUN S d YM_fails [.ref 95] (m_row (m_row (m_row I 95 F) 104 D) 105 A) J R n (some (.int 0)) (mRd I (va_up F 15 (F 11)) D A) J R n := by
  show AW S _ YM_fails n n _ 0 [(0, .ref 95)] [] (m_row (m_row (m_row I 95 F) 104 D) 105 A) J R n
  refine a_aload_n 0 dM_fails_0 rfl rfl ?_
  refine a_aload_n 0 dM_fails_1 rfl rfl ?_
  refine a_geti dM_fails_2 fl12_120 rfl ly_95 (by omega) ?_
  rw [show (m_row (m_row (m_row I 95 F) 104 D) 105 A) 95 11 = F 11 from rfl]
  refine a_puti dM_fails_5 fl12_133 rfl ly_95 (by omega) ?_
  rw [show m_up (m_row (m_row (m_row I 95 F) 104 D) 105 A) 95 15 (F 11) = (m_row (m_row (m_row I 95 (va_up F 15 (F 11))) 104 D) 105 A) from (by rw [m_up_comm (by decide), m_up_comm (by decide), m_up_r])]
  refine a_iconstN (a := 0) dM_fails_8 (by decide) ?_
  exact a_zret dM_fails_9 rfl (by rfl) ⟨rfl, rfl, rfl, rfl⟩
