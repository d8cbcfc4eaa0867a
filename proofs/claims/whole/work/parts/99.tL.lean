theorem ms_ms0 {T : Nat → Int32} {len : Nat} : ∀ (sh : List Bool) (p : Nat), ms T len sh p = if (ms0 T len sh p).1 = true then (decide (tkS T len (ms0 T len sh p).2 = 3), (ms0 T len sh p).2) else (false, (ms0 T len sh p).2) := by
  intro sh
  induction sh with
  | nil => intro p; rfl
  | cons a r ih =>
    intro p
    cases a with
    | true =>
      by_cases c : kI T len p = -1
      · rw [ms0_k0 c]
        show (if kI T len p = -1 then (false, p) else _) = _
        rw [if_pos c, if_neg Bool.false_ne_true]
      · rw [ms0_k c]
        show (if kI T len p = -1 then (false, p) else _) = _
        rw [if_neg c]; exact ih _
    | false =>
      by_cases c : tkS T len p = 2
      · rw [ms0_n c]
        show (if tkS T len p = 2 then _ else (false, p)) = _
        rw [if_pos c]; exact ih _
      · rw [ms0_n0 c]
        show (if tkS T len p = 2 then _ else (false, p)) = _
        rw [if_neg c, if_neg Bool.false_ne_true]
theorem ms0_le {T : Nat → Int32} {len : Nat} (sh : List Bool) {p : Nat} (hp : p ≤ len) : p ≤ (ms0 T len sh p).2 ∧ (ms0 T len sh p).2 ≤ len := by
  have h := ms_le (T := T) sh p hp
  rw [ms_ms0] at h
  by_cases c : (ms0 T len sh p).1 = true
  · rw [if_pos c] at h; exact h
  · rw [if_neg c] at h; exact h
abbrev lN9 (T : Nat → Int32) (len of p : Nat) : Nat := (lA T len of p).toNatClampNeg
def lnQ (I : mI) (J : mJ) (R : mR) (len of p : Nat) (st : TS) (v : Option Value) (I2 : mI) (J2 : mJ) (R2 : mR) : Prop :=
  R2 = R ∧ ((v = some (.int 0) ∧ (∃ w, J2 = m_up J 95 14 w) ∧ ∃ q F' D' A', F' 15 = nI (tkB (I 96) len q) ∧ ((lA (I 96) len of p = -1 ∧ q = p) ∨ (¬ lA (I 96) len of p = -1 ∧ (ms0 (I 96) len (shA (lN9 (I 96) len of p)) (tkE (I 96) len p)).1 = false ∧ q = (ms0 (I 96) len (shA (lN9 (I 96) len of p)) (tkE (I 96) len p)).2)) ∧ I2 = mRd I F' D' A')
  ∨ (v = some (.int 1) ∧ ¬ lA (I 96) len of p = -1 ∧ (ms0 (I 96) len (shA (lN9 (I 96) len of p)) (tkE (I 96) len p)).1 = true ∧ J2 = m_up J 95 14 (tkW (I 96) len (ms0 (I 96) len (shA (lN9 (I 96) len of p)) (tkE (I 96) len p)).2) ∧ ∃ F' A' g' D' gh' gl' x', RS (I 96) len (ms0 (I 96) len (shA (lN9 (I 96) len of p)) (tkE (I 96) len p)).2 x' gh' gl' g' F' ∧ RR of (stA (I 96) len (lN9 (I 96) len of p) (tkB (I 96) len p) (tkE (I 96) len p) st) x' gh' gl' D' ∧ I2 = mRd I F' D' A'))
theorem olq_ln {I : mI} {J : mJ} {R : mR} {len l of p : Nat} {st : TS} (hl : l < 10) (h : lA (I 96) len of p = nI l) {v : Option Value} {I2 : mI} {J2 : mJ} {R2 : mR} (q : olq I J R len l of p st v I2 J2 R2) : lnQ I J R len of p st v I2 J2 R2 := by
  have e : lN9 (I 96) len of p = l := by unfold lN9; rw [h]; exact nI_clamp (by omega)
  have en : ¬ lA (I 96) len of p = -1 := by rw [h]; exact nI_m1 (by omega)
  unfold lnQ
  rw [e]
  rcases q with ⟨e3, ⟨e1, m1, e2, F', D', A', h15, e4⟩ | ⟨e1, m1, e2, F', A', g', D', gh', gl', x', hS, hr, e4⟩⟩
  · exact ⟨e3, Or.inl ⟨e1, e2, _, F', D', A', h15, Or.inr ⟨en, m1, rfl⟩, e4⟩⟩
  · exact ⟨e3, Or.inr ⟨e1, en, m1, e2, F', A', g', D', gh', gl', x', hS, hr, e4⟩⟩
theorem tq0_ln {I : mI} {J : mJ} {R : mR} {len of p : Nat} {st : TS} {D A : Nat → Int32} (h : lA (I 96) len of p = -1) {v : Option Value} {I2 : mI} {J2 : mJ} {R2 : mR} (q : tq0 I J R (tkB (I 96) len p) D A v I2 J2 R2) : lnQ I J R len of p st v I2 J2 R2 := by
  obtain ⟨e1, e2, e3, F', h15, e4⟩ := q
  exact ⟨e3, Or.inl ⟨e1, e2, p, F', D, A, h15, Or.inl ⟨h, rfl⟩, e4⟩⟩
def wvP (T : Nat → Int32) (len p : Nat) (wv : Int64) : Prop := (tkS T len p = 1 ∧ wv = tkW T len p) ∨ (¬ tkS T len p = 1 ∧ wv = 0)
theorem wv_0 {T : Nat → Int32} {len p : Nat} {wv : Int64} (hp : p ≤ len) (h : wvP T len p wv) : lg_cmp wv 114827921155443 = 0 ↔ iwT T len p 0 := by
  rcases h with ⟨a, b⟩ | ⟨a, b⟩
  · rw [b]; exact tkW_0 hp a
  · rw [b, lg_cmp_eq]
    exact ⟨fun q => absurd q (by decide), fun q => absurd q.1 a⟩
theorem wv_1 {T : Nat → Int32} {len p : Nat} {wv : Int64} (hp : p ≤ len) (h : wvP T len p wv) : lg_cmp wv 1836019556 = 0 ↔ iwT T len p 1 := by
  rcases h with ⟨a, b⟩ | ⟨a, b⟩
  · rw [b]; exact tkW_1 hp a
  · rw [b, lg_cmp_eq]
    exact ⟨fun q => absurd q (by decide), fun q => absurd q.1 a⟩
theorem wv_2 {T : Nat → Int32} {len p : Nat} {wv : Int64} (hp : p ≤ len) (h : wvP T len p wv) : lg_cmp wv 119183001281906 = 0 ↔ iwT T len p 2 := by
  rcases h with ⟨a, b⟩ | ⟨a, b⟩
  · rw [b]; exact tkW_2 hp a
  · rw [b, lg_cmp_eq]
    exact ⟨fun q => absurd q (by decide), fun q => absurd q.1 a⟩
theorem wv_3 {T : Nat → Int32} {len p : Nat} {wv : Int64} (hp : p ≤ len) (h : wvP T len p wv) : lg_cmp wv 7102839 = 0 ↔ iwT T len p 3 := by
  rcases h with ⟨a, b⟩ | ⟨a, b⟩
  · rw [b]; exact tkW_3 hp a
  · rw [b, lg_cmp_eq]
    exact ⟨fun q => absurd q (by decide), fun q => absurd q.1 a⟩
theorem wv_4 {T : Nat → Int32} {len p : Nat} {wv : Int64} (hp : p ≤ len) (h : wvP T len p wv) : lg_cmp wv 469920277619 = 0 ↔ iwT T len p 4 := by
  rcases h with ⟨a, b⟩ | ⟨a, b⟩
  · rw [b]; exact tkW_4 hp a
  · rw [b, lg_cmp_eq]
    exact ⟨fun q => absurd q (by decide), fun q => absurd q.1 a⟩
theorem wv_5 {T : Nat → Int32} {len p : Nat} {wv : Int64} (hp : p ≤ len) (h : wvP T len p wv) : lg_cmp wv 1734964837 = 0 ↔ iwT T len p 5 := by
  rcases h with ⟨a, b⟩ | ⟨a, b⟩
  · rw [b]; exact tkW_5 hp a
  · rw [b, lg_cmp_eq]
    exact ⟨fun q => absurd q (by decide), fun q => absurd q.1 a⟩
theorem wv_6 {T : Nat → Int32} {len p : Nat} {wv : Int64} (hp : p ≤ len) (h : wvP T len p wv) : lg_cmp wv 1936484720 = 0 ↔ iwT T len p 6 := by
  rcases h with ⟨a, b⟩ | ⟨a, b⟩
  · rw [b]; exact tkW_6 hp a
  · rw [b, lg_cmp_eq]
    exact ⟨fun q => absurd q (by decide), fun q => absurd q.1 a⟩
theorem wv_7 {T : Nat → Int32} {len p : Nat} {wv : Int64} (hp : p ≤ len) (h : wvP T len p wv) : lg_cmp wv 1651864174 = 0 ↔ iwT T len p 7 := by
  rcases h with ⟨a, b⟩ | ⟨a, b⟩
  · rw [b]; exact tkW_7 hp a
  · rw [b, lg_cmp_eq]
    exact ⟨fun q => absurd q (by decide), fun q => absurd q.1 a⟩
theorem wv_8 {T : Nat → Int32} {len p : Nat} {wv : Int64} (hp : p ≤ len) (h : wvP T len p wv) : lg_cmp wv 474214787188 = 0 ↔ iwT T len p 8 := by
  rcases h with ⟨a, b⟩ | ⟨a, b⟩
  · rw [b]; exact tkW_8 hp a
  · rw [b, lg_cmp_eq]
    exact ⟨fun q => absurd q (by decide), fun q => absurd q.1 a⟩
theorem la_c0 {T : Nat → Int32} {len p : Nat} : (iwT T len p 0 ∧ lA T len 0 p = nI 0) ∨ (¬ iwT T len p 0 ∧ iwT T len p 1 ∧ lA T len 0 p = nI 1) ∨ (¬ iwT T len p 0 ∧ ¬ iwT T len p 1 ∧ iwT T len p 2 ∧ lA T len 0 p = nI 2) ∨ (¬ iwT T len p 0 ∧ ¬ iwT T len p 1 ∧ ¬ iwT T len p 2 ∧ iwT T len p 3 ∧ lA T len 0 p = nI 3) ∨ (¬ iwT T len p 0 ∧ ¬ iwT T len p 1 ∧ ¬ iwT T len p 2 ∧ ¬ iwT T len p 3 ∧ iwT T len p 4 ∧ lA T len 0 p = nI 4) ∨ (¬ iwT T len p 0 ∧ ¬ iwT T len p 1 ∧ ¬ iwT T len p 2 ∧ ¬ iwT T len p 3 ∧ ¬ iwT T len p 4 ∧ lA T len 0 p = -1) := by
  have hk : lA T len 0 p = olC T (tkS T len p) (tkB T len p) (tkE T len p) := rfl
  unfold olC at hk
  by_cases n0 : iwT T len p 0
  · rw [if_neg (iwV_t n0)] at hk; exact Or.inl ⟨n0, hk⟩
  · rw [if_pos (iwV_f n0)] at hk
    by_cases n1 : iwT T len p 1
    · rw [if_neg (iwV_t n1)] at hk; exact Or.inr (Or.inl ⟨n0, n1, hk⟩)
    · rw [if_pos (iwV_f n1)] at hk
      by_cases n2 : iwT T len p 2
      · rw [if_neg (iwV_t n2)] at hk; exact Or.inr (Or.inr (Or.inl ⟨n0, n1, n2, hk⟩))
      · rw [if_pos (iwV_f n2)] at hk
        by_cases n3 : iwT T len p 3
        · rw [if_neg (iwV_t n3)] at hk; exact Or.inr (Or.inr (Or.inr (Or.inl ⟨n0, n1, n2, n3, hk⟩)))
        · rw [if_pos (iwV_f n3)] at hk
          by_cases n4 : iwT T len p 4
          · rw [if_neg (iwV_t n4)] at hk; exact Or.inr (Or.inr (Or.inr (Or.inr (Or.inl ⟨n0, n1, n2, n3, n4, hk⟩))))
          · rw [if_pos (iwV_f n4)] at hk
            exact Or.inr (Or.inr (Or.inr (Or.inr (Or.inr (⟨n0, n1, n2, n3, n4, hk⟩)))))
theorem la_c1 {T : Nat → Int32} {len p : Nat} : (iwT T len p 5 ∧ lA T len 1 p = nI 5) ∨ (¬ iwT T len p 5 ∧ iwT T len p 6 ∧ lA T len 1 p = nI 6) ∨ (¬ iwT T len p 5 ∧ ¬ iwT T len p 6 ∧ iwT T len p 7 ∧ lA T len 1 p = nI 7) ∨ (¬ iwT T len p 5 ∧ ¬ iwT T len p 6 ∧ ¬ iwT T len p 7 ∧ iwT T len p 8 ∧ lA T len 1 p = nI 8) ∨ (¬ iwT T len p 5 ∧ ¬ iwT T len p 6 ∧ ¬ iwT T len p 7 ∧ ¬ iwT T len p 8 ∧ lA T len 1 p = -1) := by
  have hk : lA T len 1 p = wlC T (tkS T len p) (tkB T len p) (tkE T len p) := rfl
  unfold wlC at hk
  by_cases n5 : iwT T len p 5
  · rw [if_neg (iwV_t n5)] at hk; exact Or.inl ⟨n5, hk⟩
  · rw [if_pos (iwV_f n5)] at hk
    by_cases n6 : iwT T len p 6
    · rw [if_neg (iwV_t n6)] at hk; exact Or.inr (Or.inl ⟨n5, n6, hk⟩)
    · rw [if_pos (iwV_f n6)] at hk
      by_cases n7 : iwT T len p 7
      · rw [if_neg (iwV_t n7)] at hk; exact Or.inr (Or.inr (Or.inl ⟨n5, n6, n7, hk⟩))
      · rw [if_pos (iwV_f n7)] at hk
        by_cases n8 : iwT T len p 8
        · rw [if_neg (iwV_t n8)] at hk; exact Or.inr (Or.inr (Or.inr (Or.inl ⟨n5, n6, n7, n8, hk⟩)))
        · rw [if_pos (iwV_f n8)] at hk
          exact Or.inr (Or.inr (Or.inr (Or.inr (⟨n5, n6, n7, n8, hk⟩))))
theorem la_c2 {T : Nat → Int32} {len p : Nat} : (iwT T len p 1 ∧ lA T len 2 p = nI 9) ∨ (¬ iwT T len p 1 ∧ lA T len 2 p = -1) := by
  have hk : lA T len 2 p = glC T (tkS T len p) (tkB T len p) (tkE T len p) := rfl
  unfold glC at hk
  by_cases n1 : iwT T len p 1
  · rw [if_neg (iwV_t n1)] at hk; exact Or.inl ⟨n1, hk⟩
  · rw [if_pos (iwV_f n1)] at hk
    exact Or.inr (⟨n1, hk⟩)
theorem iw_ln {T : Nat → Int32} {len p i j : Nat} (h : iwT T len p i) (hl : m_lens.getD i 0 ≠ m_lens.getD j 0) : ¬ iwT T len p j := fun q => hl (h.2.1.symm.trans q.2.1)
theorem iw_b0 {T : Nat → Int32} {len p i j : Nat} (h : iwT T len p i) (hi : 0 < m_lens.getD i 0) (hj : 0 < m_lens.getD j 0) (hb : (m_byts.getD i []).getD 0 0 ≠ (m_byts.getD j []).getD 0 0) : ¬ iwT T len p j := fun q => hb ((h.2.2 0 hi).symm.trans (q.2.2 0 hj))
theorem a_wk {S : Nat × (Nat → Int32)} {d : Nat} {Y : mY} {n0 nf : Nat} {Q Q' : Option Value → mI → mJ → mR → Prop} {pc : Nat} {lv : List (Nat × Value)} {st : List Value} {I : mI} {J : mJ} {R : mR} {n : Nat} (h : AW S d Y n0 nf Q pc lv st I J R n) (hQ : ∀ v I2 J2 R2, Q v I2 J2 R2 → Q' v I2 J2 R2) : AW S d Y n0 nf Q' pc lv st I J R n := by
  intro p l e s m args below meth c b X D cA hF H locs lsr hN
  intro T hT hS
  obtain ⟨t, hs, o, h1, h2, ⟨⟨v, I2, J2, R2, e1, q, at2⟩, va⟩, h4⟩ := h p l e s m args below meth c b X D cA hF H locs lsr hN T hT hS
  exact ⟨t, hs, o, h1, h2, ⟨⟨v, I2, J2, R2, e1, hQ v I2 J2 R2 q, at2⟩, va⟩, h4⟩
theorem r_oL {S : Nat × (Nat → Int32)} {d n : Nat} {I : mI} {J : mJ} {R : mR} (hn : 122 ≤ n) (hR : m_fin R) {len : Nat} (hl6 : len ≤ 600) (hby : byT (I 96) len) {p : Nat} (hp : p ≤ len) {x : Nat × Nat} {gh gl : Int32} {F D A : Nat → Int32} (hS : RS (I 96) len p x gh gl 1 F) {w wv : Int64} (hwv : wvP (I 96) len p wv) {st : TS} (hRR : RR 0 st x gh gl D) : AW S (d + 6) YM_officeLine n n (lnQ I J R len 0 p st) 0 [(0, .ref 95), (1, .long wv), (3, .int (nI (tkB (I 96) len p)))] [] (m_row (m_row (m_row I 95 F) 104 D) 105 A) (m_up J 95 14 w) R n := by
  rcases la_c0 (T := I 96) (len := len) (p := p) with ⟨y0, k⟩ | ⟨n0, y1, k⟩ | ⟨n0, n1, y2, k⟩ | ⟨n0, n1, n2, y3, k⟩ | ⟨n0, n1, n2, n3, y4, k⟩ | ⟨n0, n1, n2, n3, n4, k⟩
  · exact a_wk (r_off0 (x := x) hn hR hl6 hby hp hS (wv_0 hp hwv) (wv_1 hp hwv) (wv_2 hp hwv) (wv_3 hp hwv) (wv_4 hp hwv) y0 (iw_ln y0 (by decide)) (iw_b0 y0 (by decide) (by decide) (by decide)) (iw_ln y0 (by decide)) (iw_ln y0 (by decide)) hRR) (fun v I2 J2 R2 h => olq_ln (by decide) k h)
  · exact a_wk (r_off1 (x := x) hn hR hl6 hby hp hS (wv_0 hp hwv) (wv_1 hp hwv) (wv_2 hp hwv) (wv_3 hp hwv) (wv_4 hp hwv) y1 n0 (iw_ln y1 (by decide)) (iw_ln y1 (by decide)) (iw_ln y1 (by decide)) hRR) (fun v I2 J2 R2 h => olq_ln (by decide) k h)
  · exact a_wk (r_off2 (x := x) hn hR hl6 hby hp hS (wv_0 hp hwv) (wv_1 hp hwv) (wv_2 hp hwv) (wv_3 hp hwv) (wv_4 hp hwv) y2 n0 n1 (iw_ln y2 (by decide)) (iw_ln y2 (by decide)) hRR) (fun v I2 J2 R2 h => olq_ln (by decide) k h)
  · exact a_wk (r_off3 (x := x) hn hR hl6 hby hp hS (wv_0 hp hwv) (wv_1 hp hwv) (wv_2 hp hwv) (wv_3 hp hwv) (wv_4 hp hwv) y3 n0 n1 n2 (iw_ln y3 (by decide)) hRR) (fun v I2 J2 R2 h => olq_ln (by decide) k h)
  · exact a_wk (r_off4 (x := x) hn hR hl6 hby hp hS (wv_0 hp hwv) (wv_1 hp hwv) (wv_2 hp hwv) (wv_3 hp hwv) (wv_4 hp hwv) y4 n0 n1 n2 n3 hRR) (fun v I2 J2 R2 h => olq_ln (by decide) k h)
  · exact a_wk (r_offN (x := x) hn hR hl6 hby hp hS (wv_0 hp hwv) (wv_1 hp hwv) (wv_2 hp hwv) (wv_3 hp hwv) (wv_4 hp hwv) n0 n1 n2 n3 n4) (fun v I2 J2 R2 h => tq0_ln k h)
theorem r_wL {S : Nat × (Nat → Int32)} {d n : Nat} {I : mI} {J : mJ} {R : mR} (hn : 122 ≤ n) (hR : m_fin R) {len : Nat} (hl6 : len ≤ 600) (hby : byT (I 96) len) {p : Nat} (hp : p ≤ len) {x : Nat × Nat} {gh gl : Int32} {F D A : Nat → Int32} (hS : RS (I 96) len p x gh gl 1 F) {w wv : Int64} (hwv : wvP (I 96) len p wv) {st : TS} (hRR : RR 1 st x gh gl D) : AW S (d + 6) YM_weekLine n n (lnQ I J R len 1 p st) 0 [(0, .ref 95), (1, .long wv), (3, .int (nI (tkB (I 96) len p)))] [] (m_row (m_row (m_row I 95 F) 104 D) 105 A) (m_up J 95 14 w) R n := by
  rcases la_c1 (T := I 96) (len := len) (p := p) with ⟨y5, k⟩ | ⟨n5, y6, k⟩ | ⟨n5, n6, y7, k⟩ | ⟨n5, n6, n7, y8, k⟩ | ⟨n5, n6, n7, n8, k⟩
  · exact a_wk (r_wk5 (x := x) hn hR hl6 hby hp hS (wv_5 hp hwv) (wv_6 hp hwv) (wv_7 hp hwv) (wv_8 hp hwv) y5 (iw_b0 y5 (by decide) (by decide) (by decide)) (iw_b0 y5 (by decide) (by decide) (by decide)) (iw_ln y5 (by decide)) hRR) (fun v I2 J2 R2 h => olq_ln (by decide) k h)
  · exact a_wk (r_wk6 (x := x) hn hR hl6 hby hp hS (wv_5 hp hwv) (wv_6 hp hwv) (wv_7 hp hwv) (wv_8 hp hwv) y6 n5 (iw_b0 y6 (by decide) (by decide) (by decide)) (iw_ln y6 (by decide)) hRR) (fun v I2 J2 R2 h => olq_ln (by decide) k h)
  · exact a_wk (r_wk7 (x := x) hn hR hl6 hby hp hS (wv_5 hp hwv) (wv_6 hp hwv) (wv_7 hp hwv) (wv_8 hp hwv) y7 n5 n6 (iw_ln y7 (by decide)) hRR) (fun v I2 J2 R2 h => olq_ln (by decide) k h)
  · exact a_wk (r_wk8 (x := x) hn hR hl6 hby hp hS (wv_5 hp hwv) (wv_6 hp hwv) (wv_7 hp hwv) (wv_8 hp hwv) y8 n5 n6 n7 hRR) (fun v I2 J2 R2 h => olq_ln (by decide) k h)
  · exact a_wk (r_wkN (x := x) hn hR hl6 hby hp hS (wv_5 hp hwv) (wv_6 hp hwv) (wv_7 hp hwv) (wv_8 hp hwv) n5 n6 n7 n8) (fun v I2 J2 R2 h => tq0_ln k h)
theorem r_gL {S : Nat × (Nat → Int32)} {d n : Nat} {I : mI} {J : mJ} {R : mR} (hn : 122 ≤ n) (hR : m_fin R) {len : Nat} (hl6 : len ≤ 600) (hby : byT (I 96) len) {p : Nat} (hp : p ≤ len) {x : Nat × Nat} {gh gl : Int32} {F D A : Nat → Int32} (hS : RS (I 96) len p x gh gl 1 F) {w wv : Int64} (hwv : wvP (I 96) len p wv) {st : TS} (hRR : RR 2 st x gh gl D) : AW S (d + 6) YM_logLine n n (lnQ I J R len 2 p st) 0 [(0, .ref 95), (1, .long wv), (3, .int (nI (tkB (I 96) len p)))] [] (m_row (m_row (m_row I 95 F) 104 D) 105 A) (m_up J 95 14 w) R n := by
  rcases la_c2 (T := I 96) (len := len) (p := p) with ⟨y1, k⟩ | ⟨n1, k⟩
  · exact a_wk (r_lg9 (x := x) hn hR hl6 hby hp hS (wv_1 hp hwv) y1  hRR) (fun v I2 J2 R2 h => olq_ln (by decide) k h)
  · exact a_wk (r_lgN (x := x) hn hR hl6 hby hp hS (wv_1 hp hwv) n1) (fun v I2 J2 R2 h => tq0_ln k h)
