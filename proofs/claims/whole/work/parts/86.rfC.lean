/-- what can be left behind so many days, with what is in the bags -/
def rch (gd : Nat → Prop) (b : Nat → Nat) (lf : Nat) : Nat → Nat → Prop
  | 0, t => t = lf
  | i + 1, u => ∃ t, rch gd b lf i t ∧ ∃ s, s &&& t = s ∧ gd (b i ||| s) ∧ u = t ^^^ s
theorem xor_le {s t : Nat} (h : s &&& t = s) : t ^^^ s ≤ t := by
  by_cases h0 : s = 0
  · subst h0; rw [Nat.xor_zero]; exact Nat.le_refl _
  · exact Nat.le_of_lt (xor_lt h (by omega))
theorem rch_le {gd : Nat → Prop} {b : Nat → Nat} {lf : Nat} : ∀ i t, rch gd b lf i t → t ≤ lf := by
  intro i
  induction i with
  | zero => intro t h; exact Nat.le_of_eq h
  | succ i ih =>
    intro u ⟨t, h1, s, h2, _, h4⟩
    subst h4
    exact Nat.le_trans (xor_le h2) (ih t h1)
/-- a row of bits and what they say -/
def bR (N : Nat → Int32) (lf : Nat) (P : Nat → Prop) : Prop := ∀ j, j ≤ lf → (N j = 1 ∧ P j) ∨ (N j = 0 ∧ ¬ P j)
theorem bR_c {N : Nat → Int32} {lf : Nat} {P P' : Nat → Prop} (h : bR N lf P) (e : ∀ j, j ≤ lf → (P j ↔ P' j)) : bR N lf P' := fun j hj => by
  rcases h j hj with q | q
  · exact Or.inl ⟨q.1, (e j hj).mp q.2⟩
  · exact Or.inr ⟨q.1, fun z => q.2 ((e j hj).mpr z)⟩
/-- the bits of a day, so far: from the sets below t all, from t itself the parts from c on -/
def nxP (gd : Nat → Prop) (b : Nat → Nat) (lf i t c : Nat) (j : Nat) : Prop := (∃ t', t' < t ∧ rch gd b lf i t' ∧ ∃ s, s &&& t' = s ∧ gd (b i ||| s) ∧ j = t' ^^^ s) ∨ (rch gd b lf i t ∧ ∃ s, s &&& t = s ∧ c ≤ s ∧ gd (b i ||| s) ∧ j = t ^^^ s)
theorem l_cg1 {S : Nat × (Nat → Int32)} {d n : Nat} {I : mI} {J : mJ} {R : mR} {ko nh nl : Nat} (hn : 122 ≤ n) (hR : m_fin R) (ho : I 95 23 = nI ko) (hk : ko < 7) (hh : I 95 24 = nI nh) (hnh : nh ≤ 6) (hl : I 95 25 = nI nl) (hnl : nl ≤ 10) (hW : WFk I ko) {fo ms P lf days : Nat} (hP : P ≤ 1024) (hlf : lf < P) (hdy : days ≤ 10) {b : Nat → Nat} (hb : ∀ i, i < 10 → I 113 i = nI (b i) ∧ ∀ s, s ≤ lf → b i ||| s < P) (hG : ∀ j, j < P → I 111 j = gvR I ko nh nl fo ms j) {N : Nat → Int32} {Q : Option Value → mI → mJ → mR → Prop} (hx : ∀ L : Nat → Int32, bR L lf (fun t => t = lf) → AW S d YM_canGo n n Q 29 [(3, .int (nI (lf + 1))), (0, .ref 95), (1, .int (nI lf)), (2, .int (nI days))] [] (m_row (m_row I 114 L) 115 N) J R n) : ∀ m k, k + m = lf + 1 → ∀ L : Nat → Int32, (∀ j, j < k → (L j = 1 ∧ j = lf) ∨ (L j = 0 ∧ ¬ j = lf)) → AW S d YM_canGo n n Q 2 [(3, .int (nI k)), (0, .ref 95), (1, .int (nI lf)), (2, .int (nI days))] [] (m_row (m_row I 114 L) 115 N) J R n := by
  intro m
  induction m with
  | zero =>
    intro k hk9 L hL
    obtain rfl : k = lf + 1 := by omega
    refine a_iload_n 0 dM_canGo_2 rfl rfl ?_
    refine a_iload_n 2 dM_canGo_3 rfl rfl ?_
    refine a_icmp_gtN (tgt := 29) dM_canGo_4 (by decide) (by omega) (by omega) (fun _ => ?_) (fun c => False.elim (by omega))
    exact hx L (fun j hj => hL j (by omega))
  | succ m ih =>
    intro k hk9 L hL
    by_cases hz : k = lf
    · refine a_iload_n 0 dM_canGo_2 rfl rfl ?_
      refine a_iload_n 2 dM_canGo_3 rfl rfl ?_
      refine a_icmp_gtN (tgt := 29) dM_canGo_4 (by decide) (by omega) (by omega) (fun c => False.elim (by omega)) (fun _ => ?_)
      refine a_aload_n 1 dM_canGo_7 rfl rfl ?_
      refine a_geta (r := 114) dM_canGo_8 fl12_66 rfl ly_95 (by omega) (rf_95_44 hR) ?_
      refine a_iload_n 0 dM_canGo_11 rfl rfl ?_
      refine a_iload_n 0 dM_canGo_12 rfl rfl ?_
      refine a_iload_n 2 dM_canGo_13 rfl rfl ?_
      refine a_icmp_neN (tgt := 21) dM_canGo_14 (by decide) (by omega) (by omega) (fun c => False.elim (by omega)) (fun _ => ?_)
      refine a_iconstN (a := 1) dM_canGo_17 (by decide) ?_
      refine a_goto (tgt := 22) dM_canGo_18 (by decide) ?_
      refine a_zastN (a := k) (by decide) dM_canGo_22 ly_114 (by omega) (by omega) (by decide) ?_
      rw [show m_up (m_row (m_row I 114 L) 115 N) 114 k (nI 1) = (m_row (m_row I 114 (va_up L k (nI 1))) 115 N) from (by rw [m_up_comm (by decide), m_up_r])]
      refine a_iincN (lv' := [(3, .int (nI (k + 1))), (0, .ref 95), (1, .int (nI lf)), (2, .int (nI days))]) (j := 0) dM_canGo_23 rfl (by decide) rfl ?_
      refine a_goto (tgt := 2) dM_canGo_26 (by decide) ?_
      exact ih (k + 1) (by omega) _ (fun j hj => by
        by_cases h1 : j = k
        · subst h1; exact Or.inl ⟨vup_eq, hz⟩
        · rw [vup_ne h1]; exact hL j (by omega))
    · refine a_iload_n 0 dM_canGo_2 rfl rfl ?_
      refine a_iload_n 2 dM_canGo_3 rfl rfl ?_
      refine a_icmp_gtN (tgt := 29) dM_canGo_4 (by decide) (by omega) (by omega) (fun c => False.elim (by omega)) (fun _ => ?_)
      refine a_aload_n 1 dM_canGo_7 rfl rfl ?_
      refine a_geta (r := 114) dM_canGo_8 fl12_66 rfl ly_95 (by omega) (rf_95_44 hR) ?_
      refine a_iload_n 0 dM_canGo_11 rfl rfl ?_
      refine a_iload_n 0 dM_canGo_12 rfl rfl ?_
      refine a_iload_n 2 dM_canGo_13 rfl rfl ?_
      refine a_icmp_neN (tgt := 21) dM_canGo_14 (by decide) (by omega) (by omega) (fun _ => ?_) (fun c => False.elim (by omega))
      refine a_iconstN (a := 0) dM_canGo_21 (by decide) ?_
      refine a_zastN (a := k) (by decide) dM_canGo_22 ly_114 (by omega) (by omega) (by decide) ?_
      rw [show m_up (m_row (m_row I 114 L) 115 N) 114 k (nI 0) = (m_row (m_row I 114 (va_up L k (nI 0))) 115 N) from (by rw [m_up_comm (by decide), m_up_r])]
      refine a_iincN (lv' := [(3, .int (nI (k + 1))), (0, .ref 95), (1, .int (nI lf)), (2, .int (nI days))]) (j := 0) dM_canGo_23 rfl (by decide) rfl ?_
      refine a_goto (tgt := 2) dM_canGo_26 (by decide) ?_
      exact ih (k + 1) (by omega) _ (fun j hj => by
        by_cases h1 : j = k
        · subst h1; exact Or.inr ⟨vup_eq, hz⟩
        · rw [vup_ne h1]; exact hL j (by omega))
theorem l_cg2 {S : Nat × (Nat → Int32)} {d n : Nat} {I : mI} {J : mJ} {R : mR} {ko nh nl : Nat} (hn : 122 ≤ n) (hR : m_fin R) (ho : I 95 23 = nI ko) (hk : ko < 7) (hh : I 95 24 = nI nh) (hnh : nh ≤ 6) (hl : I 95 25 = nI nl) (hnl : nl ≤ 10) (hW : WFk I ko) {fo ms P lf days : Nat} (hP : P ≤ 1024) (hlf : lf < P) (hdy : days ≤ 10) {b : Nat → Nat} (hb : ∀ i, i < 10 → I 113 i = nI (b i) ∧ ∀ s, s ≤ lf → b i ||| s < P) (hG : ∀ j, j < P → I 111 j = gvR I ko nh nl fo ms j) {i : Nat} {L : Nat → Int32} {Q : Option Value → mI → mJ → mR → Prop} (hx : ∀ N : Nat → Int32, (∀ j, j ≤ lf → N j = 0) → AW S d YM_canGo n n Q 59 [(4, .int (nI (lf + 1))), (0, .ref 95), (1, .int (nI lf)), (2, .int (nI days)), (3, .int (nI i))] [] (m_row (m_row I 114 L) 115 N) J R n) : ∀ m k, k + m = lf + 1 → ∀ N : Nat → Int32, (∀ j, j < k → N j = 0) → AW S d YM_canGo n n Q 39 [(4, .int (nI k)), (0, .ref 95), (1, .int (nI lf)), (2, .int (nI days)), (3, .int (nI i))] [] (m_row (m_row I 114 L) 115 N) J R n := by
  intro m
  induction m with
  | zero =>
    intro k hk9 N hN
    obtain rfl : k = lf + 1 := by omega
    refine a_iload 0 dM_canGo_39 rfl ?_
    refine a_iload_n 2 dM_canGo_41 rfl rfl ?_
    refine a_icmp_gtN (tgt := 59) dM_canGo_42 (by decide) (by omega) (by omega) (fun _ => ?_) (fun c => False.elim (by omega))
    exact hx N (fun j hj => hN j (by omega))
  | succ m ih =>
    intro k hk9 N hN
    refine a_iload 0 dM_canGo_39 rfl ?_
    refine a_iload_n 2 dM_canGo_41 rfl rfl ?_
    refine a_icmp_gtN (tgt := 59) dM_canGo_42 (by decide) (by omega) (by omega) (fun c => False.elim (by omega)) (fun _ => ?_)
    refine a_aload_n 1 dM_canGo_45 rfl rfl ?_
    refine a_geta (r := 115) dM_canGo_46 fl12_69 rfl ly_95 (by omega) (rf_95_45 hR) ?_
    refine a_iload 0 dM_canGo_49 rfl ?_
    refine a_iconstN (a := 0) dM_canGo_51 (by decide) ?_
    refine a_zastN (a := k) (by decide) dM_canGo_52 ly_115 (by omega) (by omega) (by decide) ?_
    rw [show m_up (m_row (m_row I 114 L) 115 N) 115 k (nI 0) = (m_row (m_row I 114 L) 115 (va_up N k (nI 0))) from (by rw [m_up_r])]
    refine a_iincN (lv' := [(4, .int (nI (k + 1))), (0, .ref 95), (1, .int (nI lf)), (2, .int (nI days)), (3, .int (nI i))]) (j := 0) dM_canGo_53 rfl (by decide) rfl ?_
    refine a_goto (tgt := 39) dM_canGo_56 (by decide) ?_
    exact ih (k + 1) (by omega) _ (fun j hj => by
      by_cases h1 : j = k
      · subst h1; exact vup_eq
      · rw [vup_ne h1]; exact hN j (by omega))
theorem l_cg4 {S : Nat × (Nat → Int32)} {d n : Nat} {I : mI} {J : mJ} {R : mR} {ko nh nl : Nat} (hn : 122 ≤ n) (hR : m_fin R) (ho : I 95 23 = nI ko) (hk : ko < 7) (hh : I 95 24 = nI nh) (hnh : nh ≤ 6) (hl : I 95 25 = nI nl) (hnl : nl ≤ 10) (hW : WFk I ko) {fo ms P lf days : Nat} (hP : P ≤ 1024) (hlf : lf < P) (hdy : days ≤ 10) {b : Nat → Nat} (hb : ∀ i, i < 10 → I 113 i = nI (b i) ∧ ∀ s, s ≤ lf → b i ||| s < P) (hG : ∀ j, j < P → I 111 j = gvR I ko nh nl fo ms j) {i : Nat} {N : Nat → Int32} {p : Nat → Prop} (hN : bR N lf p) {Q : Option Value → mI → mJ → mR → Prop} (hx : ∀ L : Nat → Int32, bR L lf p → AW S d YM_canGo n n Q 192 [(4, .int (nI (lf + 1))), (0, .ref 95), (1, .int (nI lf)), (2, .int (nI days)), (3, .int (nI i))] [] (m_row (m_row I 114 L) 115 N) J R n) : ∀ m k, k + m = lf + 1 → ∀ L : Nat → Int32, (∀ j, j < k → L j = N j) → AW S d YM_canGo n n Q 166 [(4, .int (nI k)), (0, .ref 95), (1, .int (nI lf)), (2, .int (nI days)), (3, .int (nI i))] [] (m_row (m_row I 114 L) 115 N) J R n := by
  intro m
  induction m with
  | zero =>
    intro k hk9 L hL
    obtain rfl : k = lf + 1 := by omega
    refine a_iload 0 dM_canGo_166 rfl ?_
    refine a_iload_n 2 dM_canGo_168 rfl rfl ?_
    refine a_icmp_gtN (tgt := 192) dM_canGo_169 (by decide) (by omega) (by omega) (fun _ => ?_) (fun c => False.elim (by omega))
    exact hx L (fun j hj => by rw [hL j (by omega)]; exact hN j hj)
  | succ m ih =>
    intro k hk9 L hL
    have h01 : N k = 0 ∨ N k = 1 := by rcases hN k (by omega) with q | q; exact Or.inr q.1; exact Or.inl q.1
    refine a_iload 0 dM_canGo_166 rfl ?_
    refine a_iload_n 2 dM_canGo_168 rfl rfl ?_
    refine a_icmp_gtN (tgt := 192) dM_canGo_169 (by decide) (by omega) (by omega) (fun c => False.elim (by omega)) (fun _ => ?_)
    refine a_aload_n 1 dM_canGo_172 rfl rfl ?_
    refine a_geta (r := 114) dM_canGo_173 fl12_66 rfl ly_95 (by omega) (rf_95_44 hR) ?_
    refine a_iload 0 dM_canGo_176 rfl ?_
    refine a_aload_n 1 dM_canGo_178 rfl rfl ?_
    refine a_geta (r := 115) dM_canGo_179 fl12_69 rfl ly_95 (by omega) (rf_95_45 hR) ?_
    refine a_iload 0 dM_canGo_182 rfl ?_
    refine a_zaldN (a := k) dM_canGo_184 ly_115 (by omega) (by omega) (by decide) ?_
    rw [show (m_row (m_row I 114 L) 115 N) 115 k = N k from rfl]
    refine a_zastN (a := k) h01 dM_canGo_185 ly_114 (by omega) (by omega) (by decide) ?_
    rw [show m_up (m_row (m_row I 114 L) 115 N) 114 k (N k) = (m_row (m_row I 114 (va_up L k (N k))) 115 N) from (by rw [m_up_comm (by decide), m_up_r])]
    refine a_iincN (lv' := [(4, .int (nI (k + 1))), (0, .ref 95), (1, .int (nI lf)), (2, .int (nI days)), (3, .int (nI i))]) (j := 0) dM_canGo_186 rfl (by decide) rfl ?_
    refine a_goto (tgt := 166) dM_canGo_189 (by decide) ?_
    exact ih (k + 1) (by omega) _ (fun j hj => by
      by_cases h1 : j = k
      · subst h1; exact vup_eq
      · rw [vup_ne h1]; exact hL j (by omega))
theorem nxP_s {gd : Nat → Prop} {b : Nat → Nat} {lf i t s j : Nat} (hr : rch gd b lf i t) (hst : s &&& t = s) : nxP gd b lf i t s j ↔ nxP gd b lf i t (s + 1) j ∨ (gd (b i ||| s) ∧ j = t ^^^ s) := by
  constructor
  · intro h
    rcases h with h | ⟨h1, u, h2, h3, h4, h5⟩
    · exact Or.inl (Or.inl h)
    · rcases Nat.lt_or_eq_of_le h3 with q | q
      · exact Or.inl (Or.inr ⟨h1, u, h2, q, h4, h5⟩)
      · subst q; exact Or.inr ⟨h4, h5⟩
  · intro h
    rcases h with (h | ⟨h1, u, h2, h3, h4, h5⟩) | h
    · exact Or.inl h
    · exact Or.inr ⟨h1, u, h2, by omega, h4, h5⟩
    · exact Or.inr ⟨hr, s, hst, Nat.le_refl _, h.1, h.2⟩
theorem nxP_n {gd : Nat → Prop} {b : Nat → Nat} {lf i t s j : Nat} (hst : s &&& t = s) (h0 : 0 < s) : nxP gd b lf i t s j ↔ nxP gd b lf i t (((s - 1) &&& t) + 1) j := by
  have hl := nx_lt (t := t) h0
  constructor
  · intro h
    rcases h with h | ⟨h1, u, h2, h3, h4, h5⟩
    · exact Or.inl h
    · exact Or.inr ⟨h1, u, h2, by omega, h4, h5⟩
  · intro h
    rcases h with h | ⟨h1, u, h2, h3, h4, h5⟩
    · exact Or.inl h
    · refine Or.inr ⟨h1, u, h2, ?_, h4, h5⟩
      rcases Nat.lt_or_ge u s with q | q
      · exact absurd (nx_set s t u hst h2 q) (by omega)
      · exact q
/-- the bits of a day, from the sets below t -/
def dnP (gd : Nat → Prop) (b : Nat → Nat) (lf i t j : Nat) : Prop := ∃ t', t' < t ∧ rch gd b lf i t' ∧ ∃ s, s &&& t' = s ∧ gd (b i ||| s) ∧ j = t' ^^^ s
theorem nxP_i {gd : Nat → Prop} {b : Nat → Nat} {lf i t j : Nat} : nxP gd b lf i t (t + 1) j ↔ dnP gd b lf i t j := by
  constructor
  · intro h
    rcases h with h | ⟨h1, u, h2, h3, h4, h5⟩
    · exact h
    · exact absurd (sub_le h2) (by omega)
  · intro h; exact Or.inl h
theorem nxP_0 {gd : Nat → Prop} {b : Nat → Nat} {lf i t j : Nat} : nxP gd b lf i t 0 j ↔ dnP gd b lf i (t + 1) j := by
  constructor
  · intro h
    rcases h with ⟨t', h1, h⟩ | ⟨h1, u, h2, h3, h4, h5⟩
    · exact ⟨t', by omega, h⟩
    · exact ⟨t, by omega, h1, u, h2, h4, h5⟩
  · intro ⟨t', h1, h2, u, h3, h4, h5⟩
    rcases Nat.lt_or_eq_of_le (Nat.le_of_lt_succ h1) with q | q
    · exact Or.inl ⟨t', q, h2, u, h3, h4, h5⟩
    · subst q; exact Or.inr ⟨h2, u, h3, Nat.zero_le _, h4, h5⟩
theorem dnP_n {gd : Nat → Prop} {b : Nat → Nat} {lf i t j : Nat} (h : ¬ rch gd b lf i t) : dnP gd b lf i t j ↔ dnP gd b lf i (t + 1) j := by
  constructor
  · intro ⟨t', h1, h2⟩; exact ⟨t', by omega, h2⟩
  · intro ⟨t', h1, h2, h3⟩
    rcases Nat.lt_or_eq_of_le (Nat.le_of_lt_succ h1) with q | q
    · exact ⟨t', q, h2, h3⟩
    · subst q; exact absurd h2 h
theorem dnP_e {gd : Nat → Prop} {b : Nat → Nat} {lf i j : Nat} : dnP gd b lf i (lf + 1) j ↔ rch gd b lf (i + 1) j := by
  constructor
  · intro ⟨t', h1, h2, h3⟩; exact ⟨t', h2, h3⟩
  · intro ⟨t', h2, h3⟩; exact ⟨t', Nat.lt_succ_of_le (rch_le _ _ h2), h2, h3⟩
theorem bR_up {gd : Nat → Prop} {b : Nat → Nat} {N : Nat → Int32} {lf i t s : Nat} (hr : rch gd b lf i t) (hst : s &&& t = s) (h : bR N lf (nxP gd b lf i t (s + 1))) {v : Int32} (hv : (v = 1 ∧ nxP gd b lf i t s (t ^^^ s)) ∨ (v = 0 ∧ ¬ nxP gd b lf i t s (t ^^^ s))) : bR (va_up N (t ^^^ s) v) lf (nxP gd b lf i t s) := by
  intro j hj
  by_cases e : j = t ^^^ s
  · subst e; rw [vup_eq]; exact hv
  · rw [vup_ne e]
    rcases h j hj with q | q
    · exact Or.inl ⟨q.1, (nxP_s hr hst).mpr (Or.inl q.2)⟩
    · exact Or.inr ⟨q.1, fun z => by rcases (nxP_s hr hst).mp z with z | z; exact q.2 z; exact e z.2⟩
theorem l_cg3 {S : Nat × (Nat → Int32)} {d n : Nat} {I : mI} {J : mJ} {R : mR} {ko nh nl : Nat} (hn : 122 ≤ n) (hR : m_fin R) (ho : I 95 23 = nI ko) (hk : ko < 7) (hh : I 95 24 = nI nh) (hnh : nh ≤ 6) (hl : I 95 25 = nI nl) (hnl : nl ≤ 10) (hW : WFk I ko) {fo ms P lf days : Nat} (hP : P ≤ 1024) (hlf : lf < P) (hdy : days ≤ 10) {b : Nat → Nat} (hb : ∀ i, i < 10 → I 113 i = nI (b i) ∧ ∀ s, s ≤ lf → b i ||| s < P) (hG : ∀ j, j < P → I 111 j = gvR I ko nh nl fo ms j) {i t : Nat} (hi : i < days) (ht : t ≤ lf) {L : Nat → Int32} (hr : rch (gdR I ko nh nl fo ms) b lf i t) (hL : L t = 1) {Q : Option Value → mI → mJ → mR → Prop} (hx : ∀ N : Nat → Int32, bR N lf (dnP (gdR I ko nh nl fo ms) b lf i (t + 1)) → AW S d YM_canGo n n Q 157 [(4, .int (nI t)), (0, .ref 95), (1, .int (nI lf)), (2, .int (nI days)), (3, .int (nI i))] [] (m_row (m_row I 114 L) 115 N) J R n) : ∀ s, s &&& t = s → ∀ N : Nat → Int32, bR N lf (nxP (gdR I ko nh nl fo ms) b lf i t (s + 1)) → AW S d YM_canGo n n Q 72 [(5, .int (nI s)), (4, .int (nI t)), (0, .ref 95), (1, .int (nI lf)), (2, .int (nI days)), (3, .int (nI i))] [] (m_row (m_row I 114 L) 115 N) J R n := by
  intro s
  induction s using Nat.strongRecOn with
  | ind s ih =>
    intro hst N hN
    have hle := sub_le hst
    have hxl := xor_le hst
    have hbi := hb i (by omega)
    have hbs := hbi.2 s (by omega)
    have hGs := hG (b i ||| s) hbs
    have h72 : ∀ (N2 : Nat → Int32), bR N2 lf (nxP (gdR I ko nh nl fo ms) b lf i t s) → s = 0 → AW S d YM_canGo n n Q 72 [(5, .int (-1)), (4, .int (nI t)), (0, .ref 95), (1, .int (nI lf)), (2, .int (nI days)), (3, .int (nI i))] [] (m_row (m_row I 114 L) 115 N2) J R n := by
      intro N2 hN2 hs0
      refine a_aload_n 2 dM_canGo_72 rfl rfl ?_
      refine a_geta (r := 114) dM_canGo_73 fl12_66 rfl ly_95 (by omega) (rf_95_44 hR) ?_
      refine a_iload 1 dM_canGo_76 rfl ?_
      refine a_zaldN (a := t) dM_canGo_78 ly_114 (by omega) (by omega) (by decide) ?_
      rw [show (m_row (m_row I 114 L) 115 N2) 114 t = L t from rfl]
      rw [show (L t) = 1 from hL]
      refine a_if_eq (tgt := 157) dM_canGo_79 (by decide) (fun c => False.elim (absurd c (by decide))) (fun _ => ?_)
      refine a_iload 0 dM_canGo_82 rfl ?_
      refine a_if_lt (tgt := 157) dM_canGo_84 (by decide) (fun _ => ?_) (fun c => False.elim (c (by decide)))
      refine a_locs (lv' := [(4, .int (nI t)), (0, .ref 95), (1, .int (nI lf)), (2, .int (nI days)), (3, .int (nI i))]) [1, 2, 3, 4, 5] rfl ?_
      exact hx N2 (bR_c hN2 (fun j hj => by rw [hs0]; exact nxP_0))
    have go : ∀ v : Int32, ((v = 1 ∧ nxP (gdR I ko nh nl fo ms) b lf i t s (t ^^^ s)) ∨ (v = 0 ∧ ¬ nxP (gdR I ko nh nl fo ms) b lf i t s (t ^^^ s))) → AW S d YM_canGo n n Q 136 [(5, .int (nI s)), (4, .int (nI t)), (0, .ref 95), (1, .int (nI lf)), (2, .int (nI days)), (3, .int (nI i))] [] (m_row (m_row I 114 L) 115 (va_up N (t ^^^ s) v)) J R n := by
      intro v hv
      have hN2 := bR_up hr hst hN hv
      by_cases hs0 : s = 0
      · refine a_iload 0 dM_canGo_136 rfl ?_
        refine a_if_ne (tgt := 145) dM_canGo_138 (by decide) (fun c => False.elim (c (by rw [hs0]; rfl))) (fun _ => ?_)
        refine a_iconst (v := -1) dM_canGo_141 (by decide) ?_
        refine a_goto (tgt := 152) dM_canGo_142 (by decide) ?_
        refine a_istore (lv' := [(5, .int (-1)), (4, .int (nI t)), (0, .ref 95), (1, .int (nI lf)), (2, .int (nI days)), (3, .int (nI i))]) dM_canGo_152 (by decide) rfl ?_
        refine a_goto (tgt := 72) dM_canGo_154 (by decide) ?_
        refine a_locs (lv' := [(5, .int (-1)), (4, .int (nI t)), (0, .ref 95), (1, .int (nI lf)), (2, .int (nI days)), (3, .int (nI i))]) [0, 1, 2, 3, 4, 5] rfl ?_
        exact h72 _ hN2 hs0
      · refine a_iload 0 dM_canGo_136 rfl ?_
        refine a_if_ne (tgt := 145) dM_canGo_138 (by decide) (fun _ => ?_) (fun c => False.elim (nI_ne0 (by omega) (by omega) c))
        refine a_iload 0 dM_canGo_145 rfl ?_
        refine a_iconstN (a := 1) dM_canGo_147 (by decide) ?_
        refine a_isubN dM_canGo_148 (by omega) ?_
        refine a_iload 1 dM_canGo_149 rfl ?_
        refine a_iand dM_canGo_151 ?_
        rw [show ((nI (s - 1)) &&& (nI t)) = (nI ((s - 1) &&& t)) from and_nI]
        refine a_istore (lv' := [(5, .int (nI ((s - 1) &&& t))), (4, .int (nI t)), (0, .ref 95), (1, .int (nI lf)), (2, .int (nI days)), (3, .int (nI i))]) dM_canGo_152 (by decide) rfl ?_
        refine a_goto (tgt := 72) dM_canGo_154 (by decide) ?_
        refine a_locs (lv' := [(5, .int (nI ((s - 1) &&& t))), (4, .int (nI t)), (0, .ref 95), (1, .int (nI lf)), (2, .int (nI days)), (3, .int (nI i))]) [0, 1, 2, 3, 4, 5] rfl ?_
        exact ih ((s - 1) &&& t) (nx_lt (by omega)) nx_sub _ (bR_c hN2 (fun j hj => nxP_n hst (by omega)))
    rcases hN (t ^^^ s) (by omega) with q | q
    · refine a_aload_n 2 dM_canGo_72 rfl rfl ?_
      refine a_geta (r := 114) dM_canGo_73 fl12_66 rfl ly_95 (by omega) (rf_95_44 hR) ?_
      refine a_iload 1 dM_canGo_76 rfl ?_
      refine a_zaldN (a := t) dM_canGo_78 ly_114 (by omega) (by omega) (by decide) ?_
      rw [show (m_row (m_row I 114 L) 115 N) 114 t = L t from rfl]
      rw [show (L t) = 1 from hL]
      refine a_if_eq (tgt := 157) dM_canGo_79 (by decide) (fun c => False.elim (absurd c (by decide))) (fun _ => ?_)
      refine a_iload 0 dM_canGo_82 rfl ?_
      refine a_if_lt (tgt := 157) dM_canGo_84 (by decide) (fun c => False.elim (nI_pos (by omega) c)) (fun _ => ?_)
      refine a_aload_n 2 dM_canGo_87 rfl rfl ?_
      refine a_geta (r := 115) dM_canGo_88 fl12_69 rfl ly_95 (by omega) (rf_95_45 hR) ?_
      refine a_iload 1 dM_canGo_91 rfl ?_
      refine a_iload 0 dM_canGo_93 rfl ?_
      refine a_iconst (v := -1) dM_canGo_95 (by decide) ?_
      refine a_ixor dM_canGo_96 ?_
      refine a_iand dM_canGo_97 ?_
      rw [show ((nI t) &&& ((nI s) ^^^ (-1))) = (nI (t ^^^ s)) from (mn_nI hst)]
      refine a_aload_n 2 dM_canGo_98 rfl rfl ?_
      refine a_geta (r := 115) dM_canGo_99 fl12_69 rfl ly_95 (by omega) (rf_95_45 hR) ?_
      refine a_iload 1 dM_canGo_102 rfl ?_
      refine a_iload 0 dM_canGo_104 rfl ?_
      refine a_iconst (v := -1) dM_canGo_106 (by decide) ?_
      refine a_ixor dM_canGo_107 ?_
      refine a_iand dM_canGo_108 ?_
      rw [show ((nI t) &&& ((nI s) ^^^ (-1))) = (nI (t ^^^ s)) from (mn_nI hst)]
      refine a_zaldN (a := (t ^^^ s)) dM_canGo_109 ly_115 (by omega) (by omega) (by decide) ?_
      rw [show (m_row (m_row I 114 L) 115 N) 115 (t ^^^ s) = N (t ^^^ s) from rfl]
      rw [show (N (t ^^^ s)) = 1 from q.1]
      refine a_if_ne (tgt := 130) dM_canGo_110 (by decide) (fun _ => ?_) (fun c => False.elim (absurd c (by decide)))
      refine a_iconstN (a := 1) dM_canGo_130 (by decide) ?_
      refine a_goto (tgt := 135) dM_canGo_131 (by decide) ?_
      refine a_zastN (a := (t ^^^ s)) (by decide) dM_canGo_135 ly_115 (by omega) (by omega) (by decide) ?_
      rw [show m_up (m_row (m_row I 114 L) 115 N) 115 (t ^^^ s) (nI 1) = (m_row (m_row I 114 L) 115 (va_up N (t ^^^ s) (nI 1))) from (by rw [m_up_r])]
      refine a_locs (lv' := [(5, .int (nI s)), (4, .int (nI t)), (0, .ref 95), (1, .int (nI lf)), (2, .int (nI days)), (3, .int (nI i))]) [0, 1, 2, 3, 4, 5] rfl ?_
      exact go 1 (Or.inl ⟨rfl, (nxP_s hr hst).mpr (Or.inl q.2)⟩)
    · by_cases hg : gdR I ko nh nl fo ms (b i ||| s)
      · refine a_aload_n 2 dM_canGo_72 rfl rfl ?_
        refine a_geta (r := 114) dM_canGo_73 fl12_66 rfl ly_95 (by omega) (rf_95_44 hR) ?_
        refine a_iload 1 dM_canGo_76 rfl ?_
        refine a_zaldN (a := t) dM_canGo_78 ly_114 (by omega) (by omega) (by decide) ?_
        rw [show (m_row (m_row I 114 L) 115 N) 114 t = L t from rfl]
        rw [show (L t) = 1 from hL]
        refine a_if_eq (tgt := 157) dM_canGo_79 (by decide) (fun c => False.elim (absurd c (by decide))) (fun _ => ?_)
        refine a_iload 0 dM_canGo_82 rfl ?_
        refine a_if_lt (tgt := 157) dM_canGo_84 (by decide) (fun c => False.elim (nI_pos (by omega) c)) (fun _ => ?_)
        refine a_aload_n 2 dM_canGo_87 rfl rfl ?_
        refine a_geta (r := 115) dM_canGo_88 fl12_69 rfl ly_95 (by omega) (rf_95_45 hR) ?_
        refine a_iload 1 dM_canGo_91 rfl ?_
        refine a_iload 0 dM_canGo_93 rfl ?_
        refine a_iconst (v := -1) dM_canGo_95 (by decide) ?_
        refine a_ixor dM_canGo_96 ?_
        refine a_iand dM_canGo_97 ?_
        rw [show ((nI t) &&& ((nI s) ^^^ (-1))) = (nI (t ^^^ s)) from (mn_nI hst)]
        refine a_aload_n 2 dM_canGo_98 rfl rfl ?_
        refine a_geta (r := 115) dM_canGo_99 fl12_69 rfl ly_95 (by omega) (rf_95_45 hR) ?_
        refine a_iload 1 dM_canGo_102 rfl ?_
        refine a_iload 0 dM_canGo_104 rfl ?_
        refine a_iconst (v := -1) dM_canGo_106 (by decide) ?_
        refine a_ixor dM_canGo_107 ?_
        refine a_iand dM_canGo_108 ?_
        rw [show ((nI t) &&& ((nI s) ^^^ (-1))) = (nI (t ^^^ s)) from (mn_nI hst)]
        refine a_zaldN (a := (t ^^^ s)) dM_canGo_109 ly_115 (by omega) (by omega) (by decide) ?_
        rw [show (m_row (m_row I 114 L) 115 N) 115 (t ^^^ s) = N (t ^^^ s) from rfl]
        rw [show (N (t ^^^ s)) = 0 from q.1]
        refine a_if_ne (tgt := 130) dM_canGo_110 (by decide) (fun c => False.elim (absurd rfl c)) (fun _ => ?_)
        refine a_aload_n 2 dM_canGo_113 rfl rfl ?_
        refine a_geta (r := 111) dM_canGo_114 fl12_56 rfl ly_95 (by omega) (rf_95_41 hR) ?_
        refine a_aload_n 2 dM_canGo_117 rfl rfl ?_
        refine a_geta (r := 113) dM_canGo_118 fl12_63 rfl ly_95 (by omega) (rf_95_43 hR) ?_
        refine a_iload_n 5 dM_canGo_121 rfl rfl ?_
        refine a_ialdN (a := i) dM_canGo_122 ly_113 (by omega) (by omega) (by decide) ?_
        rw [show (m_row (m_row I 114 L) 115 N) 113 i = I 113 i from rfl]
        rw [show (I 113 i) = (nI (b i)) from hbi.1]
        refine a_iload 0 dM_canGo_123 rfl ?_
        refine a_ior dM_canGo_125 ?_
        rw [show ((nI (b i)) ||| (nI s)) = (nI (b i ||| s)) from or_nI]
        refine a_zaldN (a := (b i ||| s)) dM_canGo_126 ly_111 (by omega) (by omega) (by decide) ?_
        rw [show (m_row (m_row I 114 L) 115 N) 111 (b i ||| s) = I 111 (b i ||| s) from rfl]
        rw [show (I 111 (b i ||| s)) = 1 from hGs.trans (if_pos hg)]
        refine a_if_eq (tgt := 134) dM_canGo_127 (by decide) (fun c => False.elim (absurd c (by decide))) (fun _ => ?_)
        refine a_iconstN (a := 1) dM_canGo_130 (by decide) ?_
        refine a_goto (tgt := 135) dM_canGo_131 (by decide) ?_
        refine a_zastN (a := (t ^^^ s)) (by decide) dM_canGo_135 ly_115 (by omega) (by omega) (by decide) ?_
        rw [show m_up (m_row (m_row I 114 L) 115 N) 115 (t ^^^ s) (nI 1) = (m_row (m_row I 114 L) 115 (va_up N (t ^^^ s) (nI 1))) from (by rw [m_up_r])]
        refine a_locs (lv' := [(5, .int (nI s)), (4, .int (nI t)), (0, .ref 95), (1, .int (nI lf)), (2, .int (nI days)), (3, .int (nI i))]) [0, 1, 2, 3, 4, 5] rfl ?_
        exact go 1 (Or.inl ⟨rfl, (nxP_s hr hst).mpr (Or.inr ⟨hg, rfl⟩)⟩)
      · refine a_aload_n 2 dM_canGo_72 rfl rfl ?_
        refine a_geta (r := 114) dM_canGo_73 fl12_66 rfl ly_95 (by omega) (rf_95_44 hR) ?_
        refine a_iload 1 dM_canGo_76 rfl ?_
        refine a_zaldN (a := t) dM_canGo_78 ly_114 (by omega) (by omega) (by decide) ?_
        rw [show (m_row (m_row I 114 L) 115 N) 114 t = L t from rfl]
        rw [show (L t) = 1 from hL]
        refine a_if_eq (tgt := 157) dM_canGo_79 (by decide) (fun c => False.elim (absurd c (by decide))) (fun _ => ?_)
        refine a_iload 0 dM_canGo_82 rfl ?_
        refine a_if_lt (tgt := 157) dM_canGo_84 (by decide) (fun c => False.elim (nI_pos (by omega) c)) (fun _ => ?_)
        refine a_aload_n 2 dM_canGo_87 rfl rfl ?_
        refine a_geta (r := 115) dM_canGo_88 fl12_69 rfl ly_95 (by omega) (rf_95_45 hR) ?_
        refine a_iload 1 dM_canGo_91 rfl ?_
        refine a_iload 0 dM_canGo_93 rfl ?_
        refine a_iconst (v := -1) dM_canGo_95 (by decide) ?_
        refine a_ixor dM_canGo_96 ?_
        refine a_iand dM_canGo_97 ?_
        rw [show ((nI t) &&& ((nI s) ^^^ (-1))) = (nI (t ^^^ s)) from (mn_nI hst)]
        refine a_aload_n 2 dM_canGo_98 rfl rfl ?_
        refine a_geta (r := 115) dM_canGo_99 fl12_69 rfl ly_95 (by omega) (rf_95_45 hR) ?_
        refine a_iload 1 dM_canGo_102 rfl ?_
        refine a_iload 0 dM_canGo_104 rfl ?_
        refine a_iconst (v := -1) dM_canGo_106 (by decide) ?_
        refine a_ixor dM_canGo_107 ?_
        refine a_iand dM_canGo_108 ?_
        rw [show ((nI t) &&& ((nI s) ^^^ (-1))) = (nI (t ^^^ s)) from (mn_nI hst)]
        refine a_zaldN (a := (t ^^^ s)) dM_canGo_109 ly_115 (by omega) (by omega) (by decide) ?_
        rw [show (m_row (m_row I 114 L) 115 N) 115 (t ^^^ s) = N (t ^^^ s) from rfl]
        rw [show (N (t ^^^ s)) = 0 from q.1]
        refine a_if_ne (tgt := 130) dM_canGo_110 (by decide) (fun c => False.elim (absurd rfl c)) (fun _ => ?_)
        refine a_aload_n 2 dM_canGo_113 rfl rfl ?_
        refine a_geta (r := 111) dM_canGo_114 fl12_56 rfl ly_95 (by omega) (rf_95_41 hR) ?_
        refine a_aload_n 2 dM_canGo_117 rfl rfl ?_
        refine a_geta (r := 113) dM_canGo_118 fl12_63 rfl ly_95 (by omega) (rf_95_43 hR) ?_
        refine a_iload_n 5 dM_canGo_121 rfl rfl ?_
        refine a_ialdN (a := i) dM_canGo_122 ly_113 (by omega) (by omega) (by decide) ?_
        rw [show (m_row (m_row I 114 L) 115 N) 113 i = I 113 i from rfl]
        rw [show (I 113 i) = (nI (b i)) from hbi.1]
        refine a_iload 0 dM_canGo_123 rfl ?_
        refine a_ior dM_canGo_125 ?_
        rw [show ((nI (b i)) ||| (nI s)) = (nI (b i ||| s)) from or_nI]
        refine a_zaldN (a := (b i ||| s)) dM_canGo_126 ly_111 (by omega) (by omega) (by decide) ?_
        rw [show (m_row (m_row I 114 L) 115 N) 111 (b i ||| s) = I 111 (b i ||| s) from rfl]
        rw [show (I 111 (b i ||| s)) = 0 from hGs.trans (if_neg hg)]
        refine a_if_eq (tgt := 134) dM_canGo_127 (by decide) (fun _ => ?_) (fun c => False.elim (c rfl))
        refine a_iconstN (a := 0) dM_canGo_134 (by decide) ?_
        refine a_zastN (a := (t ^^^ s)) (by decide) dM_canGo_135 ly_115 (by omega) (by omega) (by decide) ?_
        rw [show m_up (m_row (m_row I 114 L) 115 N) 115 (t ^^^ s) (nI 0) = (m_row (m_row I 114 L) 115 (va_up N (t ^^^ s) (nI 0))) from (by rw [m_up_r])]
        refine a_locs (lv' := [(5, .int (nI s)), (4, .int (nI t)), (0, .ref 95), (1, .int (nI lf)), (2, .int (nI days)), (3, .int (nI i))]) [0, 1, 2, 3, 4, 5] rfl ?_
        exact go 0 (Or.inr ⟨rfl, fun z => by rcases (nxP_s hr hst).mp z with z | z; exact q.2 z; exact hg z.1⟩)
theorem l_cg5 {S : Nat × (Nat → Int32)} {d n : Nat} {I : mI} {J : mJ} {R : mR} {ko nh nl : Nat} (hn : 122 ≤ n) (hR : m_fin R) (ho : I 95 23 = nI ko) (hk : ko < 7) (hh : I 95 24 = nI nh) (hnh : nh ≤ 6) (hl : I 95 25 = nI nl) (hnl : nl ≤ 10) (hW : WFk I ko) {fo ms P lf days : Nat} (hP : P ≤ 1024) (hlf : lf < P) (hdy : days ≤ 10) {b : Nat → Nat} (hb : ∀ i, i < 10 → I 113 i = nI (b i) ∧ ∀ s, s ≤ lf → b i ||| s < P) (hG : ∀ j, j < P → I 111 j = gvR I ko nh nl fo ms j) {i : Nat} (hi : i < days) {L : Nat → Int32} (hL : bR L lf (rch (gdR I ko nh nl fo ms) b lf i)) {Q : Option Value → mI → mJ → mR → Prop} (hx : ∀ N : Nat → Int32, bR N lf (rch (gdR I ko nh nl fo ms) b lf (i + 1)) → AW S d YM_canGo n n Q 163 [(4, .int (nI (lf + 1))), (0, .ref 95), (1, .int (nI lf)), (2, .int (nI days)), (3, .int (nI i))] [] (m_row (m_row I 114 L) 115 N) J R n) : ∀ m t, t + m = lf + 1 → ∀ N : Nat → Int32, bR N lf (dnP (gdR I ko nh nl fo ms) b lf i t) → AW S d YM_canGo n n Q 62 [(4, .int (nI t)), (0, .ref 95), (1, .int (nI lf)), (2, .int (nI days)), (3, .int (nI i))] [] (m_row (m_row I 114 L) 115 N) J R n := by
  intro m
  induction m with
  | zero =>
    intro t ht9 N hN
    obtain rfl : t = lf + 1 := by omega
    refine a_iload 0 dM_canGo_62 rfl ?_
    refine a_iload_n 2 dM_canGo_64 rfl rfl ?_
    refine a_icmp_gtN (tgt := 163) dM_canGo_65 (by decide) (by omega) (by omega) (fun _ => ?_) (fun c => False.elim (by omega))
    exact hx N (bR_c hN (fun j hj => dnP_e))
  | succ m ih =>
    intro t ht9 N hN
    rcases hL t (by omega) with q | q
    · refine a_iload 0 dM_canGo_62 rfl ?_
      refine a_iload_n 2 dM_canGo_64 rfl rfl ?_
      refine a_icmp_gtN (tgt := 163) dM_canGo_65 (by decide) (by omega) (by omega) (fun c => False.elim (by omega)) (fun _ => ?_)
      refine a_iload 0 dM_canGo_68 rfl ?_
      refine a_istore (lv' := [(5, .int (nI t)), (4, .int (nI t)), (0, .ref 95), (1, .int (nI lf)), (2, .int (nI days)), (3, .int (nI i))]) dM_canGo_70 (by decide) rfl ?_
      refine a_locs (lv' := [(5, .int (nI t)), (4, .int (nI t)), (0, .ref 95), (1, .int (nI lf)), (2, .int (nI days)), (3, .int (nI i))]) [0, 1, 2, 3, 4, 5] rfl ?_
      refine l_cg3 hn hR ho hk hh hnh hl hnl hW hP hlf hdy hb hG hi (by omega) q.2 q.1 (fun N2 hN2 => ?_) t (Nat.and_self t) N (bR_c hN (fun j hj => nxP_i.symm))
      refine a_iincN (lv' := [(4, .int (nI (t + 1))), (0, .ref 95), (1, .int (nI lf)), (2, .int (nI days)), (3, .int (nI i))]) (j := 0) dM_canGo_157 rfl (by decide) rfl ?_
      refine a_goto (tgt := 62) dM_canGo_160 (by decide) ?_
      refine a_locs (lv' := [(4, .int (nI (t + 1))), (0, .ref 95), (1, .int (nI lf)), (2, .int (nI days)), (3, .int (nI i))]) [0, 1, 2, 3, 4] rfl ?_
      exact ih (t + 1) (by omega) N2 hN2
    · refine a_iload 0 dM_canGo_62 rfl ?_
      refine a_iload_n 2 dM_canGo_64 rfl rfl ?_
      refine a_icmp_gtN (tgt := 163) dM_canGo_65 (by decide) (by omega) (by omega) (fun c => False.elim (by omega)) (fun _ => ?_)
      refine a_iload 0 dM_canGo_68 rfl ?_
      refine a_istore (lv' := [(5, .int (nI t)), (4, .int (nI t)), (0, .ref 95), (1, .int (nI lf)), (2, .int (nI days)), (3, .int (nI i))]) dM_canGo_70 (by decide) rfl ?_
      refine a_aload_n 2 dM_canGo_72 rfl rfl ?_
      refine a_geta (r := 114) dM_canGo_73 fl12_66 rfl ly_95 (by omega) (rf_95_44 hR) ?_
      refine a_iload 1 dM_canGo_76 rfl ?_
      refine a_zaldN (a := t) dM_canGo_78 ly_114 (by omega) (by omega) (by decide) ?_
      rw [show (m_row (m_row I 114 L) 115 N) 114 t = L t from rfl]
      rw [show (L t) = 0 from q.1]
      refine a_if_eq (tgt := 157) dM_canGo_79 (by decide) (fun _ => ?_) (fun c => False.elim (c rfl))
      refine a_iincN (lv' := [(4, .int (nI (t + 1))), (5, .int (nI t)), (0, .ref 95), (1, .int (nI lf)), (2, .int (nI days)), (3, .int (nI i))]) (j := 1) dM_canGo_157 rfl (by decide) rfl ?_
      refine a_goto (tgt := 62) dM_canGo_160 (by decide) ?_
      refine a_locs (lv' := [(4, .int (nI (t + 1))), (0, .ref 95), (1, .int (nI lf)), (2, .int (nI days)), (3, .int (nI i))]) [0, 2, 3, 4, 5] rfl ?_
      exact ih (t + 1) (by omega) N (bR_c hN (fun j hj => dnP_n q.2))
theorem l_cg6 {S : Nat × (Nat → Int32)} {d n : Nat} {I : mI} {J : mJ} {R : mR} {ko nh nl : Nat} (hn : 122 ≤ n) (hR : m_fin R) (ho : I 95 23 = nI ko) (hk : ko < 7) (hh : I 95 24 = nI nh) (hnh : nh ≤ 6) (hl : I 95 25 = nI nl) (hnl : nl ≤ 10) (hW : WFk I ko) {fo ms P lf days : Nat} (hP : P ≤ 1024) (hlf : lf < P) (hdy : days ≤ 10) {b : Nat → Nat} (hb : ∀ i, i < 10 → I 113 i = nI (b i) ∧ ∀ s, s ≤ lf → b i ||| s < P) (hG : ∀ j, j < P → I 111 j = gvR I ko nh nl fo ms j) {Q : Option Value → mI → mJ → mR → Prop} (hQ : ∀ (L N : Nat → Int32) v, ((v = 1 ∧ (rch (gdR I ko nh nl fo ms) b lf days) 0) ∨ (v = 0 ∧ ¬ (rch (gdR I ko nh nl fo ms) b lf days) 0)) → Q (some (.int v)) (m_row (m_row I 114 L) 115 N) J R) : ∀ m i, i + m = days → ∀ L N : Nat → Int32, bR L lf (rch (gdR I ko nh nl fo ms) b lf i) → AW S d YM_canGo n n Q 31 [(3, .int (nI i)), (0, .ref 95), (1, .int (nI lf)), (2, .int (nI days))] [] (m_row (m_row I 114 L) 115 N) J R n := by
  intro m
  induction m with
  | zero =>
    intro i hi9 L N hL
    obtain rfl : i = days := by omega
    have h0 := hL 0 (by omega)
    have h01 : L 0 = 0 ∨ L 0 = 1 := by rcases h0 with q | q; exact Or.inr q.1; exact Or.inl q.1
    refine a_iload_n 0 dM_canGo_31 rfl rfl ?_
    refine a_iload_n 3 dM_canGo_32 rfl rfl ?_
    refine a_icmp_geN (tgt := 198) dM_canGo_33 (by decide) (by omega) (by omega) (fun _ => ?_) (fun c => False.elim (by omega))
    refine a_aload_n 1 dM_canGo_198 rfl rfl ?_
    refine a_geta (r := 114) dM_canGo_199 fl12_66 rfl ly_95 (by omega) (rf_95_44 hR) ?_
    refine a_iconstN (a := 0) dM_canGo_202 (by decide) ?_
    refine a_zaldN (a := 0) dM_canGo_203 ly_114 (by omega) (by omega) (by decide) ?_
    rw [show (m_row (m_row I 114 L) 115 N) 114 0 = L 0 from rfl]
    exact a_zret dM_canGo_204 rfl (m_nz h01) (hQ L N (L 0) h0)
  | succ m ih =>
    intro i hi9 L N hL
    refine a_iload_n 0 dM_canGo_31 rfl rfl ?_
    refine a_iload_n 3 dM_canGo_32 rfl rfl ?_
    refine a_icmp_geN (tgt := 198) dM_canGo_33 (by decide) (by omega) (by omega) (fun c => False.elim (by omega)) (fun _ => ?_)
    refine a_iconstN (a := 0) dM_canGo_36 (by decide) ?_
    refine a_istore (lv' := [(4, .int (nI 0)), (3, .int (nI i)), (0, .ref 95), (1, .int (nI lf)), (2, .int (nI days))]) dM_canGo_37 (by decide) rfl ?_
    refine a_locs (lv' := [(4, .int (nI 0)), (0, .ref 95), (1, .int (nI lf)), (2, .int (nI days)), (3, .int (nI i))]) [0, 2, 3, 4, 1] rfl ?_
    refine l_cg2 hn hR ho hk hh hnh hl hnl hW hP hlf hdy hb hG (i := i) (fun N2 hN2 => ?_) (lf + 1) 0 (by omega) N (fun j hj => absurd hj (Nat.not_lt_zero _))
    refine a_iconstN (a := 0) dM_canGo_59 (by decide) ?_
    refine a_istore (lv' := [(4, .int (nI 0)), (0, .ref 95), (1, .int (nI lf)), (2, .int (nI days)), (3, .int (nI i))]) dM_canGo_60 (by decide) rfl ?_
    refine a_locs (lv' := [(4, .int (nI 0)), (0, .ref 95), (1, .int (nI lf)), (2, .int (nI days)), (3, .int (nI i))]) [0, 1, 2, 3, 4] rfl ?_
    refine l_cg5 hn hR ho hk hh hnh hl hnl hW hP hlf hdy hb hG (by omega) hL (fun N3 hN3 => ?_) (lf + 1) 0 (by omega) N2 (fun j hj => Or.inr ⟨hN2 j hj, fun q => by obtain ⟨t9, q, _⟩ := q; exact absurd q (Nat.not_lt_zero _)⟩)
    refine a_iconstN (a := 0) dM_canGo_163 (by decide) ?_
    refine a_istore (lv' := [(4, .int (nI 0)), (0, .ref 95), (1, .int (nI lf)), (2, .int (nI days)), (3, .int (nI i))]) dM_canGo_164 (by decide) rfl ?_
    refine a_locs (lv' := [(4, .int (nI 0)), (0, .ref 95), (1, .int (nI lf)), (2, .int (nI days)), (3, .int (nI i))]) [0, 1, 2, 3, 4] rfl ?_
    refine l_cg4 hn hR ho hk hh hnh hl hnl hW hP hlf hdy hb hG (i := i) hN3 (fun L2 hL2 => ?_) (lf + 1) 0 (by omega) L (fun j hj => absurd hj (Nat.not_lt_zero _))
    refine a_iincN (lv' := [(3, .int (nI (i + 1))), (4, .int (nI (lf + 1))), (0, .ref 95), (1, .int (nI lf)), (2, .int (nI days))]) (j := 4) dM_canGo_192 rfl (by decide) rfl ?_
    refine a_goto (tgt := 31) dM_canGo_195 (by decide) ?_
    refine a_locs (lv' := [(3, .int (nI (i + 1))), (0, .ref 95), (1, .int (nI lf)), (2, .int (nI days))]) [0, 2, 3, 4] rfl ?_
    exact ih (i + 1) (by omega) L2 N3 hL2
theorem cg_self {I : mI} : m_row (m_row I 114 (I 114)) 115 (I 115) = I := by rw [m_row_self, m_row_self]
theorem b_M_canGo {S : Nat × (Nat → Int32)} {d n : Nat} {I : mI} {J : mJ} {R : mR} {ko nh nl : Nat} (hn : 122 ≤ n) (hR : m_fin R) (ho : I 95 23 = nI ko) (hk : ko < 7) (hh : I 95 24 = nI nh) (hnh : nh ≤ 6) (hl : I 95 25 = nI nl) (hnl : nl ≤ 10) (hW : WFk I ko) {fo ms P lf days : Nat} (hP : P ≤ 1024) (hlf : lf < P) (hdy : days ≤ 10) {b : Nat → Nat} (hb : ∀ i, i < 10 → I 113 i = nI (b i) ∧ ∀ s, s ≤ lf → b i ||| s < P) (hG : ∀ j, j < P → I 111 j = gvR I ko nh nl fo ms j)  {Q : Option Value → mI → mJ → mR → Prop} (hQ : ∀ (L N : Nat → Int32) v, ((v = 1 ∧ (rch (gdR I ko nh nl fo ms) b lf days) 0) ∨ (v = 0 ∧ ¬ (rch (gdR I ko nh nl fo ms) b lf days) 0)) → Q (some (.int v)) (m_row (m_row I 114 L) 115 N) J R) : AW S d YM_canGo n n Q 0 [(0, .ref 95), (1, .int (nI lf)), (2, .int (nI days))] [] I J R n := by
  refine a_iconstN (a := 0) dM_canGo_0 (by decide) ?_
  refine a_istore_n (lv' := [(3, .int (nI 0)), (0, .ref 95), (1, .int (nI lf)), (2, .int (nI days))]) dM_canGo_1 rfl (by decide) rfl ?_
  refine a_mem cg_self.symm ?_
  refine a_locs (lv' := [(3, .int (nI 0)), (0, .ref 95), (1, .int (nI lf)), (2, .int (nI days))]) [0, 1, 2, 3] rfl ?_
  refine l_cg1 hn hR ho hk hh hnh hl hnl hW hP hlf hdy hb hG (N := I 115) (fun L hL => ?_) (lf + 1) 0 (by omega) (I 114) (fun j hj => absurd hj (Nat.not_lt_zero _))
  refine a_iconstN (a := 0) dM_canGo_29 (by decide) ?_
  refine a_istore_n (lv' := [(3, .int (nI 0)), (0, .ref 95), (1, .int (nI lf)), (2, .int (nI days))]) dM_canGo_30 rfl (by decide) rfl ?_
  refine a_locs (lv' := [(3, .int (nI 0)), (0, .ref 95), (1, .int (nI lf)), (2, .int (nI days))]) [0, 1, 2, 3] rfl ?_
  exact l_cg6 hn hR ho hk hh hnh hl hnl hW hP hlf hdy hb hG hQ days 0 (by omega) L (I 115) hL
