/-- what can be left behind so many days, with what is in the bags -/
def rch (gd : Nat → Prop) (b : Nat → Nat) (lf : Nat) : Nat → Nat → Prop
  | 0, t => t = lf
  | i + 1, u => ∃ t, rch gd b lf i t ∧ ∃ s, s &&& t = s ∧ gd (b i ||| s) ∧ u = t ^^^ s
theorem xor_le {s t : Nat} (h : s &&& t = s) : t ^^^ s ≤ t := by
  by_cases h0 : s = 0
  · subst h0; rw [Nat.xor_zero]; exact Nat.le_refl _
  · exact Nat.le_of_lt (xor_lt h (by omega))
theorem rch_le {gd : Nat → Prop} {b : Nat → Nat} {lf : Nat} : ∀ i t, rch gd b lf i t → t ≤ lf := by
  intro i
  induction i with
  | zero => intro t h; exact Nat.le_of_eq h
  | succ i ih =>
    intro u ⟨t, h1, s, h2, _, h4⟩
    subst h4
    exact Nat.le_trans (xor_le h2) (ih t h1)
/-- a row of bits and what they say -/
def bR (N : Nat → Int32) (lf : Nat) (P : Nat → Prop) : Prop := ∀ j, j ≤ lf → (N j = 1 ∧ P j) ∨ (N j = 0 ∧ ¬ P j)
theorem bR_c {N : Nat → Int32} {lf : Nat} {P P' : Nat → Prop} (h : bR N lf P) (e : ∀ j, j ≤ lf → (P j ↔ P' j)) : bR N lf P' := fun j hj => by
  rcases h j hj with q | q
  · exact Or.inl ⟨q.1, (e j hj).mp q.2⟩
  · exact Or.inr ⟨q.1, fun z => q.2 ((e j hj).mpr z)⟩
/-- the bits of a day, so far: from the sets below t all, from t itself the parts from c on -/
def nxP (gd : Nat → Prop) (b : Nat → Nat) (lf i t c : Nat) (j : Nat) : Prop := (∃ t', t' < t ∧ rch gd b lf i t' ∧ ∃ s, s &&& t' = s ∧ gd (b i ||| s) ∧ j = t' ^^^ s) ∨ (rch gd b lf i t ∧ ∃ s, s &&& t = s ∧ c ≤ s ∧ gd (b i ||| s) ∧ j = t ^^^ s)
theorem l_cg1 {S : Nat × (Nat → Int32)} {d n : Nat} {I : mI} {J : mJ} {R : mR} {ko nh nl : Nat} (hn : 122 ≤ n) (hR : m_fin R) (ho : I 95 23 = nI ko) (hk : ko < 7) (hh : I 95 24 = nI nh) (hnh : nh ≤ 6) (hl : I 95 25 = nI nl) (hnl : nl ≤ 10) (hW : WFk I ko) {fo ms P lf days : Nat} (hP : P ≤ 1024) (hlf : lf < P) (hdy : days ≤ 10) {b : Nat → Nat} (hb : ∀ i, i < 10 → I 113 i = nI (b i) ∧ ∀ s, s ≤ lf → b i ||| s < P) (hG : ∀ j, j < P → I 111 j = gvR I ko nh nl fo ms j) {N : Nat → Int32} {Q : Option Value → mI → mJ → mR → Prop} (hx : ∀ L : Nat → Int32, bR L lf (fun t => t = lf) → AW S d YM_canGo n n Q 29 [(3, .int (nI (lf + 1))), (0, .ref 95), (1, .int (nI lf)), (2, .int (nI days))] [] (m_row (m_row I 114 L) 115 N) J R n) : ∀ m k, k + m = lf + 1 → ∀ L : Nat → Int32, (∀ j, j < k → (L j = 1 ∧ j = lf) ∨ (L j = 0 ∧ ¬ j = lf)) → AW S d YM_canGo n n Q 2 [(3, .int (nI k)), (0, .ref 95), (1, .int (nI lf)), (2, .int (nI days))] [] (m_row (m_row I 114 L) 115 N) J R n := by
  intro m
  induction m with
  | zero =>
    intro k hk9 L hL
    obtain rfl : k = lf + 1 := by omega
    refine a_iload_n 0 dM_canGo_2 rfl rfl ?_
    refine a_iload_n 2 dM_canGo_3 rfl rfl ?_
    refine a_icmp_gtN (tgt := 29) dM_canGo_4 (by decide) (by omega) (by omega) (fun _ => ?_) (fun c => False.elim (by omega))
    exact hx L (fun j hj => hL j (by omega))
  | succ m ih =>
    intro k hk9 L hL
    by_cases hz : k = lf
    · refine a_iload_n 0 dM_canGo_2 rfl rfl ?_
      refine a_iload_n 2 dM_canGo_3 rfl rfl ?_
      refine a_icmp_gtN (tgt := 29) dM_canGo_4 (by decide) (by omega) (by omega) (fun c => False.elim (by omega)) (fun _ => ?_)
      refine a_aload_n 1 dM_canGo_7 rfl rfl ?_
      refine a_geta (r := 114) dM_canGo_8 fl12_66 rfl ly_95 (by omega) (rf_95_44 hR) ?_
      refine a_iload_n 0 dM_canGo_11 rfl rfl ?_
      refine a_iload_n 0 dM_canGo_12 rfl rfl ?_
      refine a_iload_n 2 dM_canGo_13 rfl rfl ?_
      refine a_icmp_neN (tgt := 21) dM_canGo_14 (by decide) (by omega) (by omega) (fun c => False.elim (by omega)) (fun _ => ?_)
      refine a_iconstN (a := 1) dM_canGo_17 (by decide) ?_
      refine a_goto (tgt := 22) dM_canGo_18 (by decide) ?_
      refine a_zastN (a := k) (by decide) dM_canGo_22 ly_114 (by omega) (by omega) (by decide) ?_
      rw [show m_up (m_row (m_row I 114 L) 115 N) 114 k (nI 1) = (m_row (m_row I 114 (va_up L k (nI 1))) 115 N) from (by rw [m_up_comm (by decide), m_up_r])]
      refine a_iincN (lv' := [(3, .int (nI (k + 1))), (0, .ref 95), (1, .int (nI lf)), (2, .int (nI days))]) (j := 0) dM_canGo_23 rfl (by decide) rfl ?_
      refine a_goto (tgt := 2) dM_canGo_26 (by decide) ?_
      exact ih (k + 1) (by omega) _ (fun j hj => by
        by_cases h1 : j = k
        · subst h1; exact Or.inl ⟨vup_eq, hz⟩
        · rw [vup_ne h1]; exact hL j (by omega))
    · refine a_iload_n 0 dM_canGo_2 rfl rfl ?_
      refine a_iload_n 2 dM_canGo_3 rfl rfl ?_
      refine a_icmp_gtN (tgt := 29) dM_canGo_4 (by decide) (by omega) (by omega) (fun c => False.elim (by omega)) (fun _ => ?_)
      refine a_aload_n 1 dM_canGo_7 rfl rfl ?_
      refine a_geta (r := 114) dM_canGo_8 fl12_66 rfl ly_95 (by omega) (rf_95_44 hR) ?_
      refine a_iload_n 0 dM_canGo_11 rfl rfl ?_
      refine a_iload_n 0 dM_canGo_12 rfl rfl ?_
      refine a_iload_n 2 dM_canGo_13 rfl rfl ?_
      refine a_icmp_neN (tgt := 21) dM_canGo_14 (by decide) (by omega) (by omega) (fun _ => ?_) (fun c => False.elim (by omega))
      refine a_iconstN (a := 0) dM_canGo_21 (by decide) ?_
      refine a_zastN (a := k) (by decide) dM_canGo_22 ly_114 (by omega) (by omega) (by decide) ?_
      rw [show m_up (m_row (m_row I 114 L) 115 N) 114 k (nI 0) = (m_row (m_row I 114 (va_up L k (nI 0))) 115 N) from (by rw [m_up_comm (by decide), m_up_r])]
      refine a_iincN (lv' := [(3, .int (nI (k + 1))), (0, .ref 95), (1, .int (nI lf)), (2, .int (nI days))]) (j := 0) dM_canGo_23 rfl (by decide) rfl ?_
      refine a_goto (tgt := 2) dM_canGo_26 (by decide) ?_
      exact ih (k + 1) (by omega) _ (fun j hj => by
        by_cases h1 : j = k
        · subst h1; exact Or.inr ⟨vup_eq, hz⟩
        · rw [vup_ne h1]; exact hL j (by omega))
theorem l_cg2 {S : Nat × (Nat → Int32)} {d n : Nat} {I : mI} {J : mJ} {R : mR} {ko nh nl : Nat} (hn : 122 ≤ n) (hR : m_fin R) (ho : I 95 23 = nI ko) (hk : ko < 7) (hh : I 95 24 = nI nh) (hnh : nh ≤ 6) (hl : I 95 25 = nI nl) (hnl : nl ≤ 10) (hW : WFk I ko) {fo ms P lf days : Nat} (hP : P ≤ 1024) (hlf : lf < P) (hdy : days ≤ 10) {b : Nat → Nat} (hb : ∀ i, i < 10 → I 113 i = nI (b i) ∧ ∀ s, s ≤ lf → b i ||| s < P) (hG : ∀ j, j < P → I 111 j = gvR I ko nh nl fo ms j) {i : Nat} {L : Nat → Int32} {Q : Option Value → mI → mJ → mR → Prop} (hx : ∀ N : Nat → Int32, (∀ j, j ≤ lf → N j = 0) → AW S d YM_canGo n n Q 59 [(4, .int (nI (lf + 1))), (0, .ref 95), (1, .int (nI lf)), (2, .int (nI days)), (3, .int (nI i))] [] (m_row (m_row I 114 L) 115 N) J R n) : ∀ m k, k + m = lf + 1 → ∀ N : Nat → Int32, (∀ j, j < k → N j = 0) → AW S d YM_canGo n n Q 39 [(4, .int (nI k)), (0, .ref 95), (1, .int (nI lf)), (2, .int (nI days)), (3, .int (nI i))] [] (m_row (m_row I 114 L) 115 N) J R n := by
  intro m
  induction m with
  | zero =>
    intro k hk9 N hN
    obtain rfl : k = lf + 1 := by omega
    refine a_iload 0 dM_canGo_39 rfl ?_
    refine a_iload_n 2 dM_canGo_41 rfl rfl ?_
    refine a_icmp_gtN (tgt := 59) dM_canGo_42 (by decide) (by omega) (by omega) (fun _ => ?_) (fun c => False.elim (by omega))
    exact hx N (fun j hj => hN j (by omega))
  | succ m ih =>
    intro k hk9 N hN
    refine a_iload 0 dM_canGo_39 rfl ?_
    refine a_iload_n 2 dM_canGo_41 rfl rfl ?_
    refine a_icmp_gtN (tgt := 59) dM_canGo_42 (by decide) (by omega) (by omega) (fun c => False.elim (by omega)) (fun _ => ?_)
    refine a_aload_n 1 dM_canGo_45 rfl rfl ?_
    refine a_geta (r := 115) dM_canGo_46 fl12_69 rfl ly_95 (by omega) (rf_95_45 hR) ?_
    refine a_iload 0 dM_canGo_49 rfl ?_
    refine a_iconstN (a := 0) dM_canGo_51 (by decide) ?_
    refine a_zastN (a := k) (by decide) dM_canGo_52 ly_115 (by omega) (by omega) (by decide) ?_
    rw [show m_up (m_row (m_row I 114 L) 115 N) 115 k (nI 0) = (m_row (m_row I 114 L) 115 (va_up N k (nI 0))) from (by rw [m_up_r])]
    refine a_iincN (lv' := [(4, .int (nI (k + 1))), (0, .ref 95), (1, .int (nI lf)), (2, .int (nI days)), (3, .int (nI i))]) (j := 0) dM_canGo_53 rfl (by decide) rfl ?_
    refine a_goto (tgt := 39) dM_canGo_56 (by decide) ?_
    exact ih (k + 1) (by omega) _ (fun j hj => by
      by_cases h1 : j = k
      · subst h1; exact vup_eq
      · rw [vup_ne h1]; exact hN j (by omega))
theorem l_cg4 {S : Nat × (Nat → Int32)} {d n : Nat} {I : mI} {J : mJ} {R : mR} {ko nh nl : Nat} (hn : 122 ≤ n) (hR : m_fin R) (ho : I 95 23 = nI ko) (hk : ko < 7) (hh : I 95 24 = nI nh) (hnh : nh ≤ 6) (hl : I 95 25 = nI nl) (hnl : nl ≤ 10) (hW : WFk I ko) {fo ms P lf days : Nat} (hP : P ≤ 1024) (hlf : lf < P) (hdy : days ≤ 10) {b : Nat → Nat} (hb : ∀ i, i < 10 → I 113 i = nI (b i) ∧ ∀ s, s ≤ lf → b i ||| s < P) (hG : ∀ j, j < P → I 111 j = gvR I ko nh nl fo ms j) {i : Nat} {N : Nat → Int32} {p : Nat → Prop} (hN : bR N lf p) {Q : Option Value → mI → mJ → mR → Prop} (hx : ∀ L : Nat → Int32, bR L lf p → AW S d YM_canGo n n Q 192 [(4, .int (nI (lf + 1))), (0, .ref 95), (1, .int (nI lf)), (2, .int (nI days)), (3, .int (nI i))] [] (m_row (m_row I 114 L) 115 N) J R n) : ∀ m k, k + m = lf + 1 → ∀ L : Nat → Int32, (∀ j, j < k → L j = N j) → AW S d YM_canGo n n Q 166 [(4, .int (nI k)), (0, .ref 95), (1, .int (nI lf)), (2, .int (nI days)), (3, .int (nI i))] [] (m_row (m_row I 114 L) 115 N) J R n := by
  intro m
  induction m with
  | zero =>
    intro k hk9 L hL
    obtain rfl : k = lf + 1 := by omega
    refine a_iload 0 dM_canGo_166 rfl ?_
    refine a_iload_n 2 dM_canGo_168 rfl rfl ?_
    refine a_icmp_gtN (tgt := 192) dM_canGo_169 (by decide) (by omega) (by omega) (fun _ => ?_) (fun c => False.elim (by omega))
    exact hx L (fun j hj => by rw [hL j (by omega)]; exact hN j hj)
  | succ m ih =>
    intro k hk9 L hL
    have h01 : N k = 0 ∨ N k = 1 := by rcases hN k (by omega) with q | q; exact Or.inr q.1; exact Or.inl q.1
    refine a_iload 0 dM_canGo_166 rfl ?_
    refine a_iload_n 2 dM_canGo_168 rfl rfl ?_
    refine a_icmp_gtN (tgt := 192) dM_canGo_169 (by decide) (by omega) (by omega) (fun c => False.elim (by omega)) (fun _ => ?_)
    refine a_aload_n 1 dM_canGo_172 rfl rfl ?_
    refine a_geta (r := 114) dM_canGo_173 fl12_66 rfl ly_95 (by omega) (rf_95_44 hR) ?_
    refine a_iload 0 dM_canGo_176 rfl ?_
    refine a_aload_n 1 dM_canGo_178 rfl rfl ?_
    refine a_geta (r := 115) dM_canGo_179 fl12_69 rfl ly_95 (by omega) (rf_95_45 hR) ?_
    refine a_iload 0 dM_canGo_182 rfl ?_
    refine a_zaldN (a := k) dM_canGo_184 ly_115 (by omega) (by omega) (by decide) ?_
    rw [show (m_row (m_row I 114 L) 115 N) 115 k = N k from rfl]
    refine a_zastN (a := k) h01 dM_canGo_185 ly_114 (by omega) (by omega) (by decide) ?_
    rw [show m_up (m_row (m_row I 114 L) 115 N) 114 k (N k) = (m_row (m_row I 114 (va_up L k (N k))) 115 N) from (by rw [m_up_comm (by decide), m_up_r])]
    refine a_iincN (lv' := [(4, .int (nI (k + 1))), (0, .ref 95), (1, .int (nI lf)), (2, .int (nI days)), (3, .int (nI i))]) (j := 0) dM_canGo_186 rfl (by decide) rfl ?_
    refine a_goto (tgt := 166) dM_canGo_189 (by decide) ?_
    exact ih (k + 1) (by omega) _ (fun j hj => by
      by_cases h1 : j = k
      · subst h1; exact vup_eq
      · rw [vup_ne h1]; exact hL j (by omega))
