/-- moods when all letters have come, one of them by a slip (the reference's) -/
def mvR (I : mI) (ko nl sp h : Nat) : Int32 := (acN (dsR I ko) (fun l => oR I ko (19 + l)) (hvS sp (I 106)) (fun h => oR I ko (3 + h), fun _ => -1, fun _ => 0) nl).1 h
theorem acS_mv {I : mI} {ko nl sp : Nat} {md ls cm : Nat → Int32} (hH : WFh (I 106) nl) (hs : sp < 60 ∨ sp = 99) {j : Nat} (hj : j < 6) : (acS I ko nl sp md ls cm).1 j = mvR I ko nl sp j := by
  unfold mvR
  refine (acN_c6 (fun j hj => ⟨?_, ?_⟩) nl (fun l hl => hvS_lt hH hs hl) j hj).1
  · show m_fill (fun h => oR I ko (3 + h)) md 6 j = _
    unfold m_fill; rw [if_pos hj]
  · show m_fill (fun _ => -1) ls 6 j = _
    unfold m_fill; rw [if_pos hj]
abbrev mayR (I : mI) (nh nl sp : Nat) : Prop := sp = 99 ∨ (sp / 10 < nh ∧ sp % 10 < nl ∧ ¬ hmN (I 106) (sp % 10) = sp / 10)
abbrev agR (I : mI) (ko nl kg c sp : Nat) : Prop := ∀ k, k < c → mvR I ko nl sp (fhR I kg k) = fcR I kg k 1
def fpR (I : mI) (ko nh nl kg c sp : Nat) : Bool := decide (mayR I nh nl sp ∧ agR I ko nl kg c sp)
abbrev ftR (I : mI) (ko nh nl kg c k : Nat) : List Nat := fitL (fpR I ko nh nl kg c) k
theorem ftR_t {I : mI} {ko nh nl kg c sp : Nat} (h1 : mayR I nh nl sp) (h2 : agR I ko nl kg c sp) : ftR I ko nh nl kg c (sp + 1) = ftR I ko nh nl kg c sp ++ [sp] := by
  have : fpR I ko nh nl kg c sp = true := decide_eq_true ⟨h1, h2⟩
  show (if fpR I ko nh nl kg c sp = true then _ else _) = _
  rw [if_pos this]
theorem ftR_f {I : mI} {ko nh nl kg c sp : Nat} (h : ¬ (mayR I nh nl sp ∧ agR I ko nl kg c sp)) : ftR I ko nh nl kg c (sp + 1) = ftR I ko nh nl kg c sp := by
  have : fpR I ko nh nl kg c sp = false := decide_eq_false h
  show (if fpR I ko nh nl kg c sp = true then _ else _) = _
  rw [if_neg (by rw [this]; decide)]
theorem ftR_61 {I : mI} {ko nh nl kg c : Nat} (hnh : nh ≤ 6) : (ftR I ko nh nl kg c 100).length ≤ 61 := by
  have e99 : ftR I ko nh nl kg c 99 = ftR I ko nh nl kg c (10 * nh) := by
    rw [show 99 = 10 * nh + (99 - 10 * nh) by omega]
    exact fitL_skip _ (fun j h1 h2 => decide_eq_false (fun q => by rcases q.1 with h | h; omega; omega))
  have h1 : (ftR I ko nh nl kg c (10 * nh)).length ≤ 10 * nh := fitL_len _
  by_cases h : mayR I nh nl 99 ∧ agR I ko nl kg c 99
  · rw [show (100 : Nat) = 99 + 1 from rfl, ftR_t h.1 h.2, e99, List.length_append]
    show _ + 1 ≤ 61
    omega
  · rw [show (100 : Nat) = 99 + 1 from rfl, ftR_f h, e99]
    omega
theorem fit_P {P : Nat → Bool} : ∀ k i, i < (fitL P k).length → P ((fitL P k).getD i 0) = true := by
  intro k
  induction k with
  | zero => intro i hi; exact absurd hi (Nat.not_lt_zero _)
  | succ k ih =>
    intro i hi
    unfold fitL at hi ⊢
    split
    · rename_i hp
      rw [if_pos hp, List.length_append] at hi
      rw [getD_app]
      have hi2 : i < (fitL P k).length + 1 := hi
      by_cases h : i < (fitL P k).length
      · rw [if_pos h]; exact ih i h
      · rw [if_neg h, if_pos (by omega)]; exact hp
    · rename_i hp
      rw [if_neg hp] at hi
      exact ih i hi
theorem ftR_ok {I : mI} {ko nh nl kg c i : Nat} (hnh : nh ≤ 6) (hi : i < (ftR I ko nh nl kg c 100).length) : (ftR I ko nh nl kg c 100).getD i 0 < 60 ∨ (ftR I ko nh nl kg c 100).getD i 0 = 99 := by
  have h := of_decide_eq_true (fit_P (P := fpR I ko nh nl kg c) 100 i hi)
  rcases h.1 with q | q
  · exact Or.inr q
  · refine Or.inl ?_
    show (fitL (fpR I ko nh nl kg c) 100).getD i 0 < 60
    omega
theorem vup_eq {f : Nat → Int32} {k : Nat} {x : Int32} : va_up f k x k = x := by unfold va_up; rw [if_pos rfl]
theorem vup_ne {f : Nat → Int32} {k j : Nat} {x : Int32} (h : ¬ j = k) : va_up f k x j = f j := by unfold va_up; rw [if_neg h]
/-- what the reference finds to fit -/
theorem lyN_ft {I : mI} {ko nh nl kg c : Nat} (hnh : nh ≤ 6) (hH : WFh (I 106) nl) (hF : WFg I kg c nh) {fi md ls cm : Nat → Int32} : ∀ k, k ≤ 100 → (lyN I ko nh nl kg c (0, fi, md, ls, cm) k).1 = (ftR I ko nh nl kg c k).length ∧ ∀ i, i < (ftR I ko nh nl kg c k).length → (lyN I ko nh nl kg c (0, fi, md, ls, cm) k).2.1 i = nI ((ftR I ko nh nl kg c k).getD i 0) := by
  intro k
  induction k with
  | zero => intro _; exact ⟨rfl, fun i hi => absurd hi (Nat.not_lt_zero _)⟩
  | succ k ih =>
    intro hk
    obtain ⟨i1, i2⟩ := ih (by omega)
    show (lyNS I ko nh nl kg c k (lyN I ko nh nl kg c (0, fi, md, ls, cm) k)).1 = _ ∧ ∀ i, i < _ → (lyNS I ko nh nl kg c k (lyN I ko nh nl kg c (0, fi, md, ls, cm) k)).2.1 i = _
    generalize lyN I ko nh nl kg c (0, fi, md, ls, cm) k = s at i1 i2
    have hso : ∀ (a b e : Nat → Int32), (k < 60 ∨ k = 99) → (soV I kg c (acS I ko nl k a b e).1 = 0 ↔ ¬ agR I ko nl kg c k) := by
      intro a b e hs
      have e1 : soP I kg c (acS I ko nl k a b e).1 ↔ agR I ko nl kg c k := by
        constructor
        · intro h j hj; rw [← acS_mv hH hs (by have := (hF.fh hj hnh).2; omega)]; exact h j hj
        · intro h j hj; rw [acS_mv hH hs (by have := (hF.fh hj hnh).2; omega)]; exact h j hj
      by_cases h : soP I kg c (acS I ko nl k a b e).1
      · rw [show soV I kg c (acS I ko nl k a b e).1 = 1 from if_pos h]; exact ⟨fun q => absurd q (by decide), fun q => absurd (e1.mp h) q⟩
      · rw [show soV I kg c (acS I ko nl k a b e).1 = 0 from if_neg h]; exact ⟨fun _ q => h (e1.mpr q), fun _ => rfl⟩
    have good : mayR I nh nl k → agR I ko nl kg c k → ∀ (a b e : Nat → Int32), ((s.1 + 1, va_up s.2.1 s.1 (nI k), a, b, e) : ly5).1 = (ftR I ko nh nl kg c (k + 1)).length ∧ ∀ i, i < (ftR I ko nh nl kg c (k + 1)).length → ((s.1 + 1, va_up s.2.1 s.1 (nI k), a, b, e) : ly5).2.1 i = nI ((ftR I ko nh nl kg c (k + 1)).getD i 0) := by
      intro h1 h2 a b e
      rw [ftR_t h1 h2, List.length_append]
      refine ⟨?_, fun i hi => ?_⟩
      · show s.1 + 1 = _ + 1; rw [i1]
      · show va_up s.2.1 s.1 (nI k) i = _
        rw [getD_app]
        have hi2 : i < (ftR I ko nh nl kg c k).length + 1 := hi
        by_cases h : i < (ftR I ko nh nl kg c k).length
        · rw [if_pos h, vup_ne (by omega)]; exact i2 i h
        · rw [if_neg h, if_pos (by omega), show i = s.1 by omega, vup_eq]
    have bad : ¬ (mayR I nh nl k ∧ agR I ko nl kg c k) → ∀ (a b e : Nat → Int32), ((s.1, s.2.1, a, b, e) : ly5).1 = (ftR I ko nh nl kg c (k + 1)).length ∧ ∀ i, i < (ftR I ko nh nl kg c (k + 1)).length → ((s.1, s.2.1, a, b, e) : ly5).2.1 i = nI ((ftR I ko nh nl kg c (k + 1)).getD i 0) := by
      intro h a b e
      rw [ftR_f h]
      exact ⟨i1, i2⟩
    unfold lyNS
    by_cases h99 : k = 99
    · rw [if_pos h99]
      have h9 := hso s.2.2.1 s.2.2.2.1 s.2.2.2.2 (Or.inr h99)
      by_cases hz : soV I kg c (acS I ko nl k s.2.2.1 s.2.2.2.1 s.2.2.2.2).1 = 0
      · rw [if_pos hz]; exact bad (fun q => h9.mp hz q.2) _ _ _
      · rw [if_neg hz]; exact good (Or.inl h99) (Classical.byContradiction (fun q => hz (h9.mpr q))) _ _ _
    · rw [if_neg h99]
      by_cases hA : nh ≤ k / 10
      · rw [if_pos hA]; exact bad (fun q => by rcases q.1 with q | q; omega; omega) _ _ _
      · rw [if_neg hA]
        by_cases hB : nl ≤ k % 10
        · rw [if_pos hB]; exact bad (fun q => by rcases q.1 with q | q; omega; omega) _ _ _
        · rw [if_neg hB]
          have hw := hH.hm (l := k % 10) (by omega)
          have hE : I 106 (k % 10) = nI (k / 10) ↔ hmN (I 106) (k % 10) = k / 10 := by rw [hw.1]; exact nI_eq (by omega) (by omega)
          by_cases hC : I 106 (k % 10) = nI (k / 10)
          · rw [if_pos hC]; exact bad (fun q => by rcases q.1 with q | q; omega; exact q.2.2 (hE.mp hC)) _ _ _
          · rw [if_neg hC]
            have h9 := hso s.2.2.1 s.2.2.2.1 s.2.2.2.2 (Or.inl (by omega))
            by_cases hz : soV I kg c (acS I ko nl k s.2.2.1 s.2.2.2.1 s.2.2.2.2).1 = 0
            · rw [if_pos hz]; exact bad (fun q => h9.mp hz q.2) _ _ _
            · rw [if_neg hz]; exact good (Or.inr ⟨by omega, by omega, fun q => hC (hE.mpr q)⟩) (Classical.byContradiction (fun q => hz (h9.mpr q))) _ _ _
abbrev lgI (I : mI) (ko kg : Nat) : mI := hdI (m_up (cdI I) 95 47 (nI kg)) ko
theorem lg_oR {I : mI} {ko kg k : Nat} : oR (lgI I ko kg) k = oR I k := by unfold lgI; rw [hd_oR]; rfl
theorem lg_o {I : mI} {ko kg a : Nat} (h : a ≠ 95) (h6 : a ≠ 106) (h7 : a ≠ 107) (h8 : a ≠ 108) (h9 : a ≠ 109) : lgI I ko kg a = I a := by unfold lgI; rw [hd_o h h6 h7 h8 h9, m_up_ne h]; exact m_up_ne h
theorem lg_23 {I : mI} {ko kg : Nat} : lgI I ko kg 95 23 = nI ko := rfl
theorem lg_24 {I : mI} {ko kg : Nat} : lgI I ko kg 95 24 = oR I ko 0 := rfl
theorem lg_25 {I : mI} {ko kg : Nat} : lgI I ko kg 95 25 = oR I ko 1 := rfl
theorem lg_47 {I : mI} {ko kg : Nat} : lgI I ko kg 95 47 = nI kg := rfl
theorem lg_WFk {I : mI} {ko kg : Nat} (h : WFk I ko) : WFk (lgI I ko kg) ko := by unfold WFk kdN; rw [lg_oR]; exact h
theorem lg_WFh {I : mI} {ko kg nl : Nat} (hnl : nl ≤ 10) (h : WFh (fun l => oR I ko (9 + l)) nl) : WFh (lgI I ko kg 106) nl := by
  intro l hl
  obtain ⟨q, h1, h2⟩ := h l hl
  refine ⟨q, h1, ?_⟩
  unfold lgI
  rw [hd_106]
  unfold m_fill
  rw [if_pos (by omega)]
  exact h2
theorem lg_103 {I : mI} {ko kg : Nat} : lgI I ko kg 103 = I 103 := lg_o (by decide) (by decide) (by decide) (by decide) (by decide)
theorem lgP {I : mI} {ko kg : Nat} : KP I (lgI I ko kg) := KP.hd (KP.up (KP.up KP.refl (by omega)) (by omega))
theorem lyP {I : mI} {ko kg : Nat} {s : ly5} : KP I (lyM (lgI I ko kg) s) := (((((lgP).row (by omega)).row (by omega)).row (by omega)).row (by omega)).row (by omega)
theorem ly_oR {I : mI} {s : ly5} {k : Nat} : oR (lyM I s) k = oR I k := rfl
theorem lyM_106 {I : mI} {s : ly5} : lyM I s 106 = I 106 := rfl
theorem e_M_layLog {S : Nat × (Nat → Int32)} {d n : Nat} {I : mI} {J : mJ} {R : mR} (hn : 122 ≤ n) (hR : m_fin R) {ko nh nl : Nat} (hk : ko < 2) (h1 : f_in (nI ko) 0 (I 100 0 - 1) = 1) (hh : oR I ko 0 = nI nh) (hnh : nh ≤ 6) (hl : oR I ko 1 = nI nl) (hnl : nl ≤ 10) (hW : WFk I ko) (hH : WFh (fun l => oR I ko (9 + l)) nl) {kg c : Nat} (hg2 : kg < 2) (hg1 : f_in (nI kg) 0 (I 100 2 - 1) = 1) (hcc : I 103 (17 * kg) = nI c) (hc8 : c ≤ 8) {Q : Option Value → mI → mJ → mR → Prop} (hQ0 : (∃ k, k < c ∧ f_in (fcR (lgI I ko kg) kg k 0) 0 (nI nh - 1) = 0) → Q (some (.int 0)) (lgI I ko kg) J R) (hQ1 : WFg (lgI I ko kg) kg c nh → Q (some (.int 1)) (lyM (lgI I ko kg) (lyT (lgI I ko kg) ko nh nl kg c)) J R) : AW S (d + 7) YM_layLog n n Q 0 [(0, .ref 95), (1, .int (nI ko)), (2, .int (nI kg))] [] (cdI I) J R n := by
  refine a_aload_n 0 dM_layLog_0 rfl rfl ?_
  refine a_iload_n 2 dM_layLog_1 rfl rfl ?_
  refine a_callV (Q' := m_res (some (.int 1)) (m_up (cdI I) 95 47 (nI kg)) J R) (as := [.int (nI kg)]) (st := []) dM_layLog_2 ml12_435 rfl (Nat.le_of_ble_eq_true rfl) ly_95 rfl rfl (by decide) (by omega) (Nat.le_of_ble_eq_true rfl) rfl (Nat.le_refl _) (Nat.le_refl _) (by have h := c_M_hasLog (S := S) (d := d + 4) (n := n) (J := J) (R := R) (I := cdI I) hn hR (k := nI kg); rw [show f_in (nI kg) 0 (cdI I 100 2 - 1) = 1 from hg1] at h; exact h) (m_go ?_)
  show AW _ _ _ _ _ _ _ _ [.int 1] _ _ _ _
  refine a_if_eq (tgt := 16) dM_layLog_5 (by decide) (fun c => False.elim (absurd c (by decide))) (fun _ => ?_)
  refine a_aload_n 0 dM_layLog_8 rfl rfl ?_
  refine a_iload_n 1 dM_layLog_9 rfl rfl ?_
  refine a_callV (Q' := m_res (some (.int 1)) (lgI I ko kg) J R) (as := [.int (nI ko)]) (st := []) dM_layLog_10 ml12_277 rfl (Nat.le_of_ble_eq_true rfl) ly_95 rfl rfl (by decide) (by omega) (Nat.le_of_ble_eq_true rfl) rfl (Nat.le_refl _) (Nat.le_refl _) (c_M_hand (I := m_up (cdI I) 95 47 (nI kg)) hn hR (by omega) h1) (m_go ?_)
  show AW _ _ _ _ _ _ _ _ [.int 1] _ _ _ _
  refine a_if_ne (tgt := 18) dM_layLog_13 (by decide) (fun _ => ?_) (fun c => False.elim (absurd c (by decide)))
  refine a_locs (lv' := [(0, .ref 95)]) [0] rfl ?_
  exact b_M_layLog (S := S) (d := d) (n := n) (J := J) (R := R) (I := (lgI I ko kg)) hn hR lg_23 (by omega) (lg_24.trans hh) hnh (lg_25.trans hl) hnl (lg_WFk hW) lg_47 hg2 ((congrFun lg_103 _).trans hcc) hc8 (lg_WFh hnl hH) hQ0 hQ1
theorem c_M_layLogw {S : Nat × (Nat → Int32)} {d n : Nat} {I : mI} {J : mJ} {R : mR} (hn : 122 ≤ n) (hR : m_fin R) {x y : Int32} (h2 : f_in y 0 (I 100 2 - 1) = 0)  : RUN S (d + 7) YM_layLog [.ref 95, .int x, .int y] I J R n (some (.int 0)) (m_up I 95 47 y) J R n := by
  show AW S _ YM_layLog n n _ 0 [(0, .ref 95), (1, .int x), (2, .int y)] [] I J R n
  refine a_aload_n 0 dM_layLog_0 rfl rfl ?_
  refine a_iload_n 2 dM_layLog_1 rfl rfl ?_
  refine a_callV (Q' := m_res (some (.int 0)) (m_up I 95 47 y) J R) (as := [.int y]) (st := []) dM_layLog_2 ml12_435 rfl (Nat.le_of_ble_eq_true rfl) ly_95 rfl rfl (by decide) (by omega) (Nat.le_of_ble_eq_true rfl) rfl (Nat.le_refl _) (Nat.le_refl _) (by have h := c_M_hasLog (S := S) (d := d + 4) (n := n) (J := J) (R := R) (I := I) hn hR (k := y); rw [h2] at h; exact h) (m_go ?_)
  show AW _ _ _ _ _ _ _ _ [.int 0] _ _ _ _
  refine a_if_eq (tgt := 16) dM_layLog_5 (by decide) (fun _ => ?_) (fun c => False.elim (c rfl))
  refine a_iconstN (a := 0) dM_layLog_16 (by decide) ?_
  exact a_zret dM_layLog_17 rfl (by rfl) ⟨rfl, rfl, rfl, rfl⟩
theorem c_M_layLogo {S : Nat × (Nat → Int32)} {d n : Nat} {I : mI} {J : mJ} {R : mR} (hn : 122 ≤ n) (hR : m_fin R) {x y : Int32} (h0 : f_in x 0 (I 100 0 - 1) = 0) (h2 : ¬ f_in y 0 (I 100 2 - 1) = 0)  : RUN S (d + 7) YM_layLog [.ref 95, .int x, .int y] I J R n (some (.int 0)) (m_up I 95 47 y) J R n := by
  show AW S _ YM_layLog n n _ 0 [(0, .ref 95), (1, .int x), (2, .int y)] [] I J R n
  refine a_aload_n 0 dM_layLog_0 rfl rfl ?_
  refine a_iload_n 2 dM_layLog_1 rfl rfl ?_
  refine a_callV (Q' := m_res (some (.int (f_in y 0 (I 100 2 - 1)))) (m_up I 95 47 y) J R) (as := [.int y]) (st := []) dM_layLog_2 ml12_435 rfl (Nat.le_of_ble_eq_true rfl) ly_95 rfl rfl (by decide) (by omega) (Nat.le_of_ble_eq_true rfl) rfl (Nat.le_refl _) (Nat.le_refl _) (c_M_hasLog hn hR) (m_go ?_)
  show AW _ _ _ _ _ _ _ _ [.int (f_in y 0 (I 100 2 - 1))] _ _ _ _
  refine a_if_eq (tgt := 16) dM_layLog_5 (by decide) (fun c => False.elim (h2 c)) (fun _ => ?_)
  refine a_aload_n 0 dM_layLog_8 rfl rfl ?_
  refine a_iload_n 1 dM_layLog_9 rfl rfl ?_
  refine a_callV (Q' := m_res (some (.int 0)) (m_up I 95 47 y) J R) (as := [.int x]) (st := []) dM_layLog_10 ml12_277 rfl (Nat.le_of_ble_eq_true rfl) ly_95 rfl rfl (by decide) (by omega) (Nat.le_of_ble_eq_true rfl) rfl (Nat.le_refl _) (Nat.le_refl _) (c_M_hand0 (I := m_up I 95 47 y) hn hR h0) (m_go ?_)
  show AW _ _ _ _ _ _ _ _ [.int 0] _ _ _ _
  refine a_if_ne (tgt := 18) dM_layLog_13 (by decide) (fun c => False.elim (absurd rfl c)) (fun _ => ?_)
  refine a_iconstN (a := 0) dM_layLog_16 (by decide) ?_
  exact a_zret dM_layLog_17 rfl (by rfl) ⟨rfl, rfl, rfl, rfl⟩
theorem q_M_fits0w {S : Nat × (Nat → Int32)} {d n : Nat} {I : mI} {J : mJ} {R : mR} (hn : 122 ≤ n) (hR : m_fin R) {x y : Int32} {z : Int32} (h2 : f_in y 0 (I 100 2 - 1) = 0)  : AW S (d + 8) YM_fits n n (qV I R (.int (-2))) 0 [(0, .ref 95), (1, .int x), (2, .int y), (3, .int z)] [] I J R n := by
  refine a_aload_n 0 dM_fits_0 rfl rfl ?_
  refine a_iconstN (a := 0) dM_fits_1 (by decide) ?_
  refine a_puti dM_fits_2 fl12_90 rfl ly_95 (by omega) ?_
  refine a_aload_n 0 dM_fits_5 rfl rfl ?_
  refine a_iload_n 1 dM_fits_6 rfl rfl ?_
  refine a_iload_n 2 dM_fits_7 rfl rfl ?_
  refine a_callV (Q' := m_res (some (.int 0)) (m_up (m_up I 95 0 0) 95 47 y) J R) (as := [.int x, .int y]) (st := []) dM_fits_8 ml12_456 rfl (Nat.le_of_ble_eq_true rfl) ly_95 rfl rfl (by decide) (by omega) (Nat.le_of_ble_eq_true rfl) rfl (Nat.le_refl _) (Nat.le_refl _) (c_M_layLogw (I := cdI I) hn hR h2) (m_go ?_)
  show AW _ _ _ _ _ _ _ _ [.int 0] _ _ _ _
  refine a_if_ne (tgt := 17) dM_fits_11 (by decide) (fun c => False.elim (absurd rfl c)) (fun _ => ?_)
  refine a_bipush (v := -2) dM_fits_14 (by decide) ?_
  exact a_iret dM_fits_16 rfl ⟨rfl, (KP.up (KP.up KP.refl (by omega)) (by omega)), (KF.refl hR)⟩
theorem q_M_fits0o {S : Nat × (Nat → Int32)} {d n : Nat} {I : mI} {J : mJ} {R : mR} (hn : 122 ≤ n) (hR : m_fin R) {x y : Int32} {z : Int32} (h0 : f_in x 0 (I 100 0 - 1) = 0) (h2 : ¬ f_in y 0 (I 100 2 - 1) = 0)  : AW S (d + 8) YM_fits n n (qV I R (.int (-2))) 0 [(0, .ref 95), (1, .int x), (2, .int y), (3, .int z)] [] I J R n := by
  refine a_aload_n 0 dM_fits_0 rfl rfl ?_
  refine a_iconstN (a := 0) dM_fits_1 (by decide) ?_
  refine a_puti dM_fits_2 fl12_90 rfl ly_95 (by omega) ?_
  refine a_aload_n 0 dM_fits_5 rfl rfl ?_
  refine a_iload_n 1 dM_fits_6 rfl rfl ?_
  refine a_iload_n 2 dM_fits_7 rfl rfl ?_
  refine a_callV (Q' := m_res (some (.int 0)) (m_up (m_up I 95 0 0) 95 47 y) J R) (as := [.int x, .int y]) (st := []) dM_fits_8 ml12_456 rfl (Nat.le_of_ble_eq_true rfl) ly_95 rfl rfl (by decide) (by omega) (Nat.le_of_ble_eq_true rfl) rfl (Nat.le_refl _) (Nat.le_refl _) (c_M_layLogo (I := cdI I) hn hR h0 h2) (m_go ?_)
  show AW _ _ _ _ _ _ _ _ [.int 0] _ _ _ _
  refine a_if_ne (tgt := 17) dM_fits_11 (by decide) (fun c => False.elim (absurd rfl c)) (fun _ => ?_)
  refine a_bipush (v := -2) dM_fits_14 (by decide) ?_
  exact a_iret dM_fits_16 rfl ⟨rfl, (KP.up (KP.up KP.refl (by omega)) (by omega)), (KF.refl hR)⟩
theorem q_M_then0w {S : Nat × (Nat → Int32)} {d n : Nat} {I : mI} {J : mJ} {R : mR} (hn : 122 ≤ n) (hR : m_fin R) {x y : Int32} {z : Int32} {t : Int32} (h2 : f_in y 0 (I 100 2 - 1) = 0)  : AW S (d + 8) YM_then n n (qV I R (.int (-1000))) 0 [(0, .ref 95), (1, .int x), (2, .int y), (3, .int z), (4, .int t)] [] I J R n := by
  refine a_aload_n 0 dM_then_0 rfl rfl ?_
  refine a_iconstN (a := 0) dM_then_1 (by decide) ?_
  refine a_puti dM_then_2 fl12_90 rfl ly_95 (by omega) ?_
  refine a_aload_n 0 dM_then_5 rfl rfl ?_
  refine a_iload_n 1 dM_then_6 rfl rfl ?_
  refine a_iload_n 2 dM_then_7 rfl rfl ?_
  refine a_callV (Q' := m_res (some (.int 0)) (m_up (m_up I 95 0 0) 95 47 y) J R) (as := [.int x, .int y]) (st := []) dM_then_8 ml12_456 rfl (Nat.le_of_ble_eq_true rfl) ly_95 rfl rfl (by decide) (by omega) (Nat.le_of_ble_eq_true rfl) rfl (Nat.le_refl _) (Nat.le_refl _) (c_M_layLogw (I := cdI I) hn hR h2) (m_go ?_)
  show AW _ _ _ _ _ _ _ _ [.int 0] _ _ _ _
  refine a_if_eq (tgt := 37) dM_then_11 (by decide) (fun _ => ?_) (fun c => False.elim (c rfl))
  refine a_sipush (v := -1000) dM_then_37 (by decide) ?_
  exact a_iret dM_then_40 rfl ⟨rfl, (KP.up (KP.up KP.refl (by omega)) (by omega)), (KF.refl hR)⟩
theorem q_M_then0o {S : Nat × (Nat → Int32)} {d n : Nat} {I : mI} {J : mJ} {R : mR} (hn : 122 ≤ n) (hR : m_fin R) {x y : Int32} {z : Int32} {t : Int32} (h0 : f_in x 0 (I 100 0 - 1) = 0) (h2 : ¬ f_in y 0 (I 100 2 - 1) = 0)  : AW S (d + 8) YM_then n n (qV I R (.int (-1000))) 0 [(0, .ref 95), (1, .int x), (2, .int y), (3, .int z), (4, .int t)] [] I J R n := by
  refine a_aload_n 0 dM_then_0 rfl rfl ?_
  refine a_iconstN (a := 0) dM_then_1 (by decide) ?_
  refine a_puti dM_then_2 fl12_90 rfl ly_95 (by omega) ?_
  refine a_aload_n 0 dM_then_5 rfl rfl ?_
  refine a_iload_n 1 dM_then_6 rfl rfl ?_
  refine a_iload_n 2 dM_then_7 rfl rfl ?_
  refine a_callV (Q' := m_res (some (.int 0)) (m_up (m_up I 95 0 0) 95 47 y) J R) (as := [.int x, .int y]) (st := []) dM_then_8 ml12_456 rfl (Nat.le_of_ble_eq_true rfl) ly_95 rfl rfl (by decide) (by omega) (Nat.le_of_ble_eq_true rfl) rfl (Nat.le_refl _) (Nat.le_refl _) (c_M_layLogo (I := cdI I) hn hR h0 h2) (m_go ?_)
  show AW _ _ _ _ _ _ _ _ [.int 0] _ _ _ _
  refine a_if_eq (tgt := 37) dM_then_11 (by decide) (fun _ => ?_) (fun c => False.elim (c rfl))
  refine a_sipush (v := -1000) dM_then_37 (by decide) ?_
  exact a_iret dM_then_40 rfl ⟨rfl, (KP.up (KP.up KP.refl (by omega)) (by omega)), (KF.refl hR)⟩
theorem lg_WFg {I : mI} {ko kg c nh : Nat} : WFg (lgI I ko kg) kg c nh ↔ WFg I kg c nh := by unfold WFg fcR; rw [lg_103]
theorem lg_bad {I : mI} {ko kg c nh : Nat} : (∃ k, k < c ∧ f_in (fcR (lgI I ko kg) kg k 0) 0 (nI nh - 1) = 0) ↔ ∃ k, k < c ∧ f_in (fcR I kg k 0) 0 (nI nh - 1) = 0 := by unfold fcR; rw [lg_103]
theorem WFg_nb {I : mI} {kg c nh : Nat} (hnh : nh ≤ 6) (h : WFg I kg c nh) : ¬ ∃ k, k < c ∧ f_in (fcR I kg k 0) 0 (nI nh - 1) = 0 := by
  intro ⟨k, hk, e⟩
  obtain ⟨q, h1, h2⟩ := h k hk
  rw [h2, f_in_c h1 (by omega)] at e
  exact absurd e (by decide)
theorem q_M_fits1 {S : Nat × (Nat → Int32)} {d n : Nat} {I : mI} {J : mJ} {R : mR} (hn : 122 ≤ n) (hR : m_fin R) {ko nh nl : Nat} (hk : ko < 2) (h1 : f_in (nI ko) 0 (I 100 0 - 1) = 1) (hh : oR I ko 0 = nI nh) (hnh : nh ≤ 6) (hl : oR I ko 1 = nI nl) (hnl : nl ≤ 10) (hW : WFk I ko) (hH : WFh (fun l => oR I ko (9 + l)) nl) {kg c : Nat} (hg2 : kg < 2) (hg1 : f_in (nI kg) 0 (I 100 2 - 1) = 1) (hcc : I 103 (17 * kg) = nI c) (hc8 : c ≤ 8) (hb : ∃ k, k < c ∧ f_in (fcR I kg k 0) 0 (nI nh - 1) = 0) {z : Int32}  : AW S (d + 8) YM_fits n n (qV I R (.int (-2))) 0 [(0, .ref 95), (1, .int (nI ko)), (2, .int (nI kg)), (3, .int z)] [] I J R n := by
  refine a_aload_n 0 dM_fits_0 rfl rfl ?_
  refine a_iconstN (a := 0) dM_fits_1 (by decide) ?_
  refine a_puti dM_fits_2 fl12_90 rfl ly_95 (by omega) ?_
  refine a_aload_n 0 dM_fits_5 rfl rfl ?_
  refine a_iload_n 1 dM_fits_6 rfl rfl ?_
  refine a_iload_n 2 dM_fits_7 rfl rfl ?_
  refine a_callV (Q' := fun v2 I2 J2 R2 => J2 = J ∧ R2 = R ∧ ((v2 = some (.int 0) ∧ I2 = (lgI I ko kg) ∧ ∃ k, k < c ∧ f_in (fcR I kg k 0) 0 (nI nh - 1) = 0) ∨ (v2 = some (.int 1) ∧ I2 = (lyM (lgI I ko kg) (lyT (lgI I ko kg) ko nh nl kg c)) ∧ WFg I kg c nh))) (as := [.int (nI ko), .int (nI kg)]) (st := []) dM_fits_8 ml12_456 rfl (Nat.le_of_ble_eq_true rfl) ly_95 rfl rfl (by decide) (by omega) (Nat.le_of_ble_eq_true rfl) rfl (Nat.le_refl _) (Nat.le_refl _) (e_M_layLog (S := S) (d := d) (n := n) (J := J) (R := R) hn hR hk h1 hh hnh hl hnl hW hH hg2 hg1 hcc hc8 (fun h => ⟨rfl, rfl, Or.inl ⟨rfl, rfl, lg_bad.mp h⟩⟩) (fun h => ⟨rfl, rfl, Or.inr ⟨rfl, rfl, lg_WFg.mp h⟩⟩)) ?_
  intro v2 I2 J2 R2 ⟨e2, e3, e4⟩
  rcases e4 with ⟨e1, e4, hb9⟩ | ⟨e1, e4, hF9⟩
  · subst e1
    rw [e2, e3, e4]
    show AW _ _ _ _ _ _ _ _ [.int 0] _ _ _ _
    refine a_if_ne (tgt := 17) dM_fits_11 (by decide) (fun c => False.elim (absurd rfl c)) (fun _ => ?_)
    refine a_bipush (v := -2) dM_fits_14 (by decide) ?_
    exact a_iret dM_fits_16 rfl ⟨rfl, lgP, (KF.refl hR)⟩
  · exact absurd hb (WFg_nb hnh hF9)
theorem q_M_then1 {S : Nat × (Nat → Int32)} {d n : Nat} {I : mI} {J : mJ} {R : mR} (hn : 122 ≤ n) (hR : m_fin R) {ko nh nl : Nat} (hk : ko < 2) (h1 : f_in (nI ko) 0 (I 100 0 - 1) = 1) (hh : oR I ko 0 = nI nh) (hnh : nh ≤ 6) (hl : oR I ko 1 = nI nl) (hnl : nl ≤ 10) (hW : WFk I ko) (hH : WFh (fun l => oR I ko (9 + l)) nl) {kg c : Nat} (hg2 : kg < 2) (hg1 : f_in (nI kg) 0 (I 100 2 - 1) = 1) (hcc : I 103 (17 * kg) = nI c) (hc8 : c ≤ 8) (hb : ∃ k, k < c ∧ f_in (fcR I kg k 0) 0 (nI nh - 1) = 0) {z t : Int32}  : AW S (d + 8) YM_then n n (qV I R (.int (-1000))) 0 [(0, .ref 95), (1, .int (nI ko)), (2, .int (nI kg)), (3, .int z), (4, .int t)] [] I J R n := by
  refine a_aload_n 0 dM_then_0 rfl rfl ?_
  refine a_iconstN (a := 0) dM_then_1 (by decide) ?_
  refine a_puti dM_then_2 fl12_90 rfl ly_95 (by omega) ?_
  refine a_aload_n 0 dM_then_5 rfl rfl ?_
  refine a_iload_n 1 dM_then_6 rfl rfl ?_
  refine a_iload_n 2 dM_then_7 rfl rfl ?_
  refine a_callV (Q' := fun v2 I2 J2 R2 => J2 = J ∧ R2 = R ∧ ((v2 = some (.int 0) ∧ I2 = (lgI I ko kg) ∧ ∃ k, k < c ∧ f_in (fcR I kg k 0) 0 (nI nh - 1) = 0) ∨ (v2 = some (.int 1) ∧ I2 = (lyM (lgI I ko kg) (lyT (lgI I ko kg) ko nh nl kg c)) ∧ WFg I kg c nh))) (as := [.int (nI ko), .int (nI kg)]) (st := []) dM_then_8 ml12_456 rfl (Nat.le_of_ble_eq_true rfl) ly_95 rfl rfl (by decide) (by omega) (Nat.le_of_ble_eq_true rfl) rfl (Nat.le_refl _) (Nat.le_refl _) (e_M_layLog (S := S) (d := d) (n := n) (J := J) (R := R) hn hR hk h1 hh hnh hl hnl hW hH hg2 hg1 hcc hc8 (fun h => ⟨rfl, rfl, Or.inl ⟨rfl, rfl, lg_bad.mp h⟩⟩) (fun h => ⟨rfl, rfl, Or.inr ⟨rfl, rfl, lg_WFg.mp h⟩⟩)) ?_
  intro v2 I2 J2 R2 ⟨e2, e3, e4⟩
  rcases e4 with ⟨e1, e4, hb9⟩ | ⟨e1, e4, hF9⟩
  · subst e1
    rw [e2, e3, e4]
    show AW _ _ _ _ _ _ _ _ [.int 0] _ _ _ _
    refine a_if_eq (tgt := 37) dM_then_11 (by decide) (fun _ => ?_) (fun c => False.elim (c rfl))
    refine a_sipush (v := -1000) dM_then_37 (by decide) ?_
    exact a_iret dM_then_40 rfl ⟨rfl, lgP, (KF.refl hR)⟩
  · exact absurd hb (WFg_nb hnh hF9)
theorem ly_fo {I : mI} {ko nh nl kg c : Nat} (hnh : nh ≤ 6) (hH : WFh (I 106) nl) (hF : WFg I kg c nh) : (lyT I ko nh nl kg c).1 = (ftR I ko nh nl kg c 100).length := (lyN_ft hnh hH hF 100 (by omega)).1
theorem ly_ft {I : mI} {ko nh nl kg c : Nat} (hnh : nh ≤ 6) (hH : WFh (I 106) nl) (hF : WFg I kg c nh) {i : Nat} (hi : i < (ftR I ko nh nl kg c 100).length) : (lyT I ko nh nl kg c).2.1 i = nI ((ftR I ko nh nl kg c 100).getD i 0) := (lyN_ft hnh hH hF 100 (by omega)).2 i hi
theorem ly_hm {I : mI} {ko nh nl kg c : Nat} (hnh : nh ≤ 6) (hH : WFh (I 106) nl) (hF : WFg I kg c nh) {i : Nat} (hi : i < (ftR I ko nh nl kg c 100).length) : hmN (lyT I ko nh nl kg c).2.1 i = (ftR I ko nh nl kg c 100).getD i 0 := by
  unfold hmN
  rw [ly_ft hnh hH hF hi, nI_clamp (by rcases ftR_ok hnh hi with h | h <;> omega)]
theorem ly_hft {I : mI} {ko nh nl kg c : Nat} (hnh : nh ≤ 6) (hH : WFh (I 106) nl) (hF : WFg I kg c nh) : ∀ k, k < (ftR I ko nh nl kg c 100).length → lyM I (lyT I ko nh nl kg c) 117 k = nI (hmN (lyM I (lyT I ko nh nl kg c) 117) k) ∧ (hmN (lyM I (lyT I ko nh nl kg c) 117) k < 60 ∨ hmN (lyM I (lyT I ko nh nl kg c) 117) k = 99) := by
  intro k hk
  have e : lyM I (lyT I ko nh nl kg c) 117 = (lyT I ko nh nl kg c).2.1 := rfl
  rw [e, ly_hm hnh hH hF hk, ly_ft hnh hH hF hk]
  exact ⟨rfl, ftR_ok hnh hk⟩
theorem lyT_49 {I : mI} {ko nh nl kg c : Nat} (hnh : nh ≤ 6) (hH : WFh (I 106) nl) (hF : WFg I kg c nh) : lyM I (lyT I ko nh nl kg c) 95 49 = nI (ftR I ko nh nl kg c 100).length := by rw [← ly_fo hnh hH hF]; rfl
theorem q_M_fitsLo {S : Nat × (Nat → Int32)} {d n : Nat} {I : mI} {J : mJ} {R : mR} (hn : 122 ≤ n) (hR : m_fin R) {ko nh nl : Nat} (hk : ko < 2) (h1 : f_in (nI ko) 0 (I 100 0 - 1) = 1) (hh : oR I ko 0 = nI nh) (hnh : nh ≤ 6) (hl : oR I ko 1 = nI nl) (hnl : nl ≤ 10) (hW : WFk I ko) (hH : WFh (fun l => oR I ko (9 + l)) nl) {kg c : Nat} (hg2 : kg < 2) (hg1 : f_in (nI kg) 0 (I 100 2 - 1) = 1) (hcc : I 103 (17 * kg) = nI c) (hc8 : c ≤ 8) (hF : WFg I kg c nh) {z : Int32} (hz : z < nI 10)  : AW S (d + 8) YM_fits n n (qV I R (.int (ftF (lyM (lgI I ko kg) (lyT (lgI I ko kg) ko nh nl kg c)) ko nh nl (ftR (lgI I ko kg) ko nh nl kg c 100).length z))) 0 [(0, .ref 95), (1, .int (nI ko)), (2, .int (nI kg)), (3, .int z)] [] I J R n := by
  have hH2 : WFh ((lgI I ko kg) 106) nl := lg_WFh hnl hH
  have hF2 : WFg (lgI I ko kg) kg c nh := lg_WFg.mpr hF
  refine a_aload_n 0 dM_fits_0 rfl rfl ?_
  refine a_iconstN (a := 0) dM_fits_1 (by decide) ?_
  refine a_puti dM_fits_2 fl12_90 rfl ly_95 (by omega) ?_
  refine a_aload_n 0 dM_fits_5 rfl rfl ?_
  refine a_iload_n 1 dM_fits_6 rfl rfl ?_
  refine a_iload_n 2 dM_fits_7 rfl rfl ?_
  refine a_callV (Q' := fun v2 I2 J2 R2 => J2 = J ∧ R2 = R ∧ ((v2 = some (.int 0) ∧ I2 = (lgI I ko kg) ∧ ∃ k, k < c ∧ f_in (fcR I kg k 0) 0 (nI nh - 1) = 0) ∨ (v2 = some (.int 1) ∧ I2 = (lyM (lgI I ko kg) (lyT (lgI I ko kg) ko nh nl kg c)) ∧ WFg I kg c nh))) (as := [.int (nI ko), .int (nI kg)]) (st := []) dM_fits_8 ml12_456 rfl (Nat.le_of_ble_eq_true rfl) ly_95 rfl rfl (by decide) (by omega) (Nat.le_of_ble_eq_true rfl) rfl (Nat.le_refl _) (Nat.le_refl _) (e_M_layLog (S := S) (d := d) (n := n) (J := J) (R := R) hn hR hk h1 hh hnh hl hnl hW hH hg2 hg1 hcc hc8 (fun h => ⟨rfl, rfl, Or.inl ⟨rfl, rfl, lg_bad.mp h⟩⟩) (fun h => ⟨rfl, rfl, Or.inr ⟨rfl, rfl, lg_WFg.mp h⟩⟩)) ?_
  intro v2 I2 J2 R2 ⟨e2, e3, e4⟩
  rcases e4 with ⟨e1, e4, hb9⟩ | ⟨e1, e4, hF9⟩
  · exact absurd hb9 (WFg_nb hnh hF)
  · subst e1
    rw [e2, e3, e4]
    show AW _ _ _ _ _ _ _ _ [.int 1] _ _ _ _
    refine a_if_ne (tgt := 17) dM_fits_11 (by decide) (fun _ => ?_) (fun c => False.elim (absurd c (by decide)))
    refine a_locs (lv' := [(0, .ref 95), (3, .int z)]) [0, 3] rfl ?_
    exact b_M_fits0 (S := S) (d := d + 1) (n := n) (J := J) (R := R) (I := (lyM (lgI I ko kg) (lyT (lgI I ko kg) ko nh nl kg c))) (fo := (ftR (lgI I ko kg) ko nh nl kg c 100).length) hn hR (lg_23 (I := I) (kg := kg)) (by omega) ((lg_24 (kg := kg)).trans hh) hnh ((lg_25 (kg := kg)).trans hl) hnl (lg_WFk (kg := kg) hW) hH2 (lyT_49 hnh hH2 hF2) (ftR_61 hnh) (ly_hft hnh hH2 hF2) hz (fun I' h => ⟨rfl, lyP.kr h, KF.refl hR⟩)
theorem q_M_fitsHi {S : Nat × (Nat → Int32)} {d n : Nat} {I : mI} {J : mJ} {R : mR} (hn : 122 ≤ n) (hR : m_fin R) {ko nh nl : Nat} (hk : ko < 2) (h1 : f_in (nI ko) 0 (I 100 0 - 1) = 1) (hh : oR I ko 0 = nI nh) (hnh : nh ≤ 6) (hl : oR I ko 1 = nI nl) (hnl : nl ≤ 10) (hW : WFk I ko) (hH : WFh (fun l => oR I ko (9 + l)) nl) {kg c : Nat} (hg2 : kg < 2) (hg1 : f_in (nI kg) 0 (I 100 2 - 1) = 1) (hcc : I 103 (17 * kg) = nI c) (hc8 : c ≤ 8) (hF : WFg I kg c nh) {w : Nat} (hw : 10 ≤ w) (hw2 : w < 2 ^ 31)  : AW S (d + 8) YM_fits n n (qV I R (.int (if w - 10 < (ftR (lgI I ko kg) ko nh nl kg c 100).length then nI ((ftR (lgI I ko kg) ko nh nl kg c 100).getD (w - 10) 0) else -2))) 0 [(0, .ref 95), (1, .int (nI ko)), (2, .int (nI kg)), (3, .int (nI w))] [] I J R n := by
  have hH2 : WFh ((lgI I ko kg) 106) nl := lg_WFh hnl hH
  have hF2 : WFg (lgI I ko kg) kg c nh := lg_WFg.mpr hF
  refine a_aload_n 0 dM_fits_0 rfl rfl ?_
  refine a_iconstN (a := 0) dM_fits_1 (by decide) ?_
  refine a_puti dM_fits_2 fl12_90 rfl ly_95 (by omega) ?_
  refine a_aload_n 0 dM_fits_5 rfl rfl ?_
  refine a_iload_n 1 dM_fits_6 rfl rfl ?_
  refine a_iload_n 2 dM_fits_7 rfl rfl ?_
  refine a_callV (Q' := fun v2 I2 J2 R2 => J2 = J ∧ R2 = R ∧ ((v2 = some (.int 0) ∧ I2 = (lgI I ko kg) ∧ ∃ k, k < c ∧ f_in (fcR I kg k 0) 0 (nI nh - 1) = 0) ∨ (v2 = some (.int 1) ∧ I2 = (lyM (lgI I ko kg) (lyT (lgI I ko kg) ko nh nl kg c)) ∧ WFg I kg c nh))) (as := [.int (nI ko), .int (nI kg)]) (st := []) dM_fits_8 ml12_456 rfl (Nat.le_of_ble_eq_true rfl) ly_95 rfl rfl (by decide) (by omega) (Nat.le_of_ble_eq_true rfl) rfl (Nat.le_refl _) (Nat.le_refl _) (e_M_layLog (S := S) (d := d) (n := n) (J := J) (R := R) hn hR hk h1 hh hnh hl hnl hW hH hg2 hg1 hcc hc8 (fun h => ⟨rfl, rfl, Or.inl ⟨rfl, rfl, lg_bad.mp h⟩⟩) (fun h => ⟨rfl, rfl, Or.inr ⟨rfl, rfl, lg_WFg.mp h⟩⟩)) ?_
  intro v2 I2 J2 R2 ⟨e2, e3, e4⟩
  rcases e4 with ⟨e1, e4, hb9⟩ | ⟨e1, e4, hF9⟩
  · exact absurd hb9 (WFg_nb hnh hF)
  · subst e1
    rw [e2, e3, e4]
    show AW _ _ _ _ _ _ _ _ [.int 1] _ _ _ _
    refine a_if_ne (tgt := 17) dM_fits_11 (by decide) (fun _ => ?_) (fun c => False.elim (absurd c (by decide)))
    refine a_locs (lv' := [(0, .ref 95), (3, .int (nI w))]) [0, 3] rfl ?_
    exact b_M_fitsN (S := S) (d := d + 1) (n := n) (J := J) (R := R) (I := (lyM (lgI I ko kg) (lyT (lgI I ko kg) ko nh nl kg c))) (fo := (ftR (lgI I ko kg) ko nh nl kg c 100).length) hn hR (lg_23 (I := I) (kg := kg)) (by omega) ((lg_24 (kg := kg)).trans hh) hnh ((lg_25 (kg := kg)).trans hl) hnl (lg_WFk (kg := kg) hW) hH2 (lyT_49 hnh hH2 hF2) (ftR_61 hnh) (ly_hft hnh hH2 hF2) hw hw2 ⟨by split; exact congrArg (fun x => some (Value.int x)) (ly_ft hnh hH2 hF2 ‹_›); rfl, lyP, KF.refl hR⟩
theorem q_M_then2 {S : Nat × (Nat → Int32)} {d n : Nat} {I : mI} {J : mJ} {R : mR} (hn : 122 ≤ n) (hR : m_fin R) {ko nh nl : Nat} (hk : ko < 2) (h1 : f_in (nI ko) 0 (I 100 0 - 1) = 1) (hh : oR I ko 0 = nI nh) (hnh : nh ≤ 6) (hl : oR I ko 1 = nI nl) (hnl : nl ≤ 10) (hW : WFk I ko) (hH : WFh (fun l => oR I ko (9 + l)) nl) {kg c : Nat} (hg2 : kg < 2) (hg1 : f_in (nI kg) 0 (I 100 2 - 1) = 1) (hcc : I 103 (17 * kg) = nI c) (hc8 : c ≤ 8) (hF : WFg I kg c nh) {z t : Int32} (hb : f_in z 0 (nI (ftR (lgI I ko kg) ko nh nl kg c 100).length - 1) = 0 ∨ f_in t 0 (nI nh - 1) = 0)  : AW S (d + 8) YM_then n n (qV I R (.int (-1000))) 0 [(0, .ref 95), (1, .int (nI ko)), (2, .int (nI kg)), (3, .int z), (4, .int t)] [] I J R n := by
  have hH2 : WFh ((lgI I ko kg) 106) nl := lg_WFh hnl hH
  have hF2 : WFg (lgI I ko kg) kg c nh := lg_WFg.mpr hF
  refine a_aload_n 0 dM_then_0 rfl rfl ?_
  refine a_iconstN (a := 0) dM_then_1 (by decide) ?_
  refine a_puti dM_then_2 fl12_90 rfl ly_95 (by omega) ?_
  refine a_aload_n 0 dM_then_5 rfl rfl ?_
  refine a_iload_n 1 dM_then_6 rfl rfl ?_
  refine a_iload_n 2 dM_then_7 rfl rfl ?_
  refine a_callV (Q' := fun v2 I2 J2 R2 => J2 = J ∧ R2 = R ∧ ((v2 = some (.int 0) ∧ I2 = (lgI I ko kg) ∧ ∃ k, k < c ∧ f_in (fcR I kg k 0) 0 (nI nh - 1) = 0) ∨ (v2 = some (.int 1) ∧ I2 = (lyM (lgI I ko kg) (lyT (lgI I ko kg) ko nh nl kg c)) ∧ WFg I kg c nh))) (as := [.int (nI ko), .int (nI kg)]) (st := []) dM_then_8 ml12_456 rfl (Nat.le_of_ble_eq_true rfl) ly_95 rfl rfl (by decide) (by omega) (Nat.le_of_ble_eq_true rfl) rfl (Nat.le_refl _) (Nat.le_refl _) (e_M_layLog (S := S) (d := d) (n := n) (J := J) (R := R) hn hR hk h1 hh hnh hl hnl hW hH hg2 hg1 hcc hc8 (fun h => ⟨rfl, rfl, Or.inl ⟨rfl, rfl, lg_bad.mp h⟩⟩) (fun h => ⟨rfl, rfl, Or.inr ⟨rfl, rfl, lg_WFg.mp h⟩⟩)) ?_
  intro v2 I2 J2 R2 ⟨e2, e3, e4⟩
  rcases e4 with ⟨e1, e4, hb9⟩ | ⟨e1, e4, hF9⟩
  · exact absurd hb9 (WFg_nb hnh hF)
  · subst e1
    rw [e2, e3, e4]
    show AW _ _ _ _ _ _ _ _ [.int 1] _ _ _ _
    refine a_if_eq (tgt := 37) dM_then_11 (by decide) (fun c => False.elim (absurd c (by decide))) (fun _ => ?_)
    refine a_iload_n 3 dM_then_14 rfl rfl ?_
    refine a_iconstN (a := 0) dM_then_15 (by decide) ?_
    refine a_aload_n 0 dM_then_16 rfl rfl ?_
    refine a_geti dM_then_17 fl12_447 rfl ly_95 (by omega) ?_
    rw [show (lyM (lgI I ko kg) (lyT (lgI I ko kg) ko nh nl kg c)) 95 49 = (nI (ftR (lgI I ko kg) ko nh nl kg c 100).length) from (lyT_49 hnh hH2 hF2)]
    refine a_iconstN (a := 1) dM_then_20 (by decide) ?_
    refine a_isub dM_then_21 ?_
    refine a_callS (Q' := m_res (some (.int (f_in z (nI 0) ((nI (ftR (lgI I ko kg) ko nh nl kg c 100).length) - (nI 1))))) (lyM (lgI I ko kg) (lyT (lgI I ko kg) ko nh nl kg c)) J R) (as := [.int z, .int (nI 0), .int ((nI (ftR (lgI I ko kg) ko nh nl kg c 100).length) - (nI 1))]) (st := []) dM_then_22 ml12_102 rfl (Nat.le_of_ble_eq_true rfl) (Nat.le_of_ble_eq_true rfl) rfl (Nat.le_refl _) (Nat.le_refl _) c_M_in (m_go ?_)
    show AW _ _ _ _ _ _ _ _ [.int (f_in z (nI 0) ((nI (ftR (lgI I ko kg) ko nh nl kg c 100).length) - (nI 1)))] _ _ _ _
    refine a_if_eq (tgt := 37) dM_then_25 (by decide) (fun c25 => ?_) (fun c25 => ?_)
    · refine a_sipush (v := -1000) dM_then_37 (by decide) ?_
      exact a_iret dM_then_40 rfl ⟨rfl, lyP, (KF.refl hR)⟩
    · refine a_aload_n 0 dM_then_28 rfl rfl ?_
      refine a_iload 4 dM_then_29 rfl ?_
      refine a_callV (Q' := m_res (some (.int (f_in t 0 (nI nh - 1)))) (lyM (lgI I ko kg) (lyT (lgI I ko kg) ko nh nl kg c)) J R) (as := [.int t]) (st := []) dM_then_31 ml12_322 rfl (Nat.le_of_ble_eq_true rfl) ly_95 rfl rfl (by decide) (by omega) (Nat.le_of_ble_eq_true rfl) rfl (Nat.le_refl _) (Nat.le_refl _) (by have h := c_M_isHouse (S := S) (d := d + 6) (n := n) (J := J) (R := R) (I := (lyM (lgI I ko kg) (lyT (lgI I ko kg) ko nh nl kg c))) (h := t) hn; rw [show (lyM (lgI I ko kg) (lyT (lgI I ko kg) ko nh nl kg c)) 95 24 = nI nh from (lg_24 (kg := kg)).trans hh] at h; exact h) (m_go ?_)
      show AW _ _ _ _ _ _ _ _ [.int (f_in t 0 (nI nh - 1))] _ _ _ _
      refine a_if_ne (tgt := 41) dM_then_34 (by decide) (fun c34 => ?_) (fun c34 => ?_)
      · exfalso
        rcases hb with hb | hb
        · exact c25 hb
        · exact c34 hb
      · refine a_sipush (v := -1000) dM_then_37 (by decide) ?_
        exact a_iret dM_then_40 rfl ⟨rfl, lyP, (KF.refl hR)⟩
theorem q_M_then {S : Nat × (Nat → Int32)} {d n : Nat} {I : mI} {J : mJ} {R : mR} (hn : 122 ≤ n) (hR : m_fin R) {ko nh nl : Nat} (hk : ko < 2) (h1 : f_in (nI ko) 0 (I 100 0 - 1) = 1) (hh : oR I ko 0 = nI nh) (hnh : nh ≤ 6) (hl : oR I ko 1 = nI nl) (hnl : nl ≤ 10) (hW : WFk I ko) (hH : WFh (fun l => oR I ko (9 + l)) nl) {kg c : Nat} (hg2 : kg < 2) (hg1 : f_in (nI kg) 0 (I 100 2 - 1) = 1) (hcc : I 103 (17 * kg) = nI c) (hc8 : c ≤ 8) (hF : WFg I kg c nh) {i h : Nat} (hi : i < (ftR (lgI I ko kg) ko nh nl kg c 100).length) (hh6 : h < nh)  : AW S (d + 8) YM_then n n (qV I R (.int (mvR (lgI I ko kg) ko nl ((ftR (lgI I ko kg) ko nh nl kg c 100).getD i 0) h))) 0 [(0, .ref 95), (1, .int (nI ko)), (2, .int (nI kg)), (3, .int (nI i)), (4, .int (nI h))] [] I J R n := by
  have hH2 : WFh ((lgI I ko kg) 106) nl := lg_WFh hnl hH
  have hF2 : WFg (lgI I ko kg) kg c nh := lg_WFg.mpr hF
  refine a_aload_n 0 dM_then_0 rfl rfl ?_
  refine a_iconstN (a := 0) dM_then_1 (by decide) ?_
  refine a_puti dM_then_2 fl12_90 rfl ly_95 (by omega) ?_
  refine a_aload_n 0 dM_then_5 rfl rfl ?_
  refine a_iload_n 1 dM_then_6 rfl rfl ?_
  refine a_iload_n 2 dM_then_7 rfl rfl ?_
  refine a_callV (Q' := fun v2 I2 J2 R2 => J2 = J ∧ R2 = R ∧ ((v2 = some (.int 0) ∧ I2 = (lgI I ko kg) ∧ ∃ k, k < c ∧ f_in (fcR I kg k 0) 0 (nI nh - 1) = 0) ∨ (v2 = some (.int 1) ∧ I2 = (lyM (lgI I ko kg) (lyT (lgI I ko kg) ko nh nl kg c)) ∧ WFg I kg c nh))) (as := [.int (nI ko), .int (nI kg)]) (st := []) dM_then_8 ml12_456 rfl (Nat.le_of_ble_eq_true rfl) ly_95 rfl rfl (by decide) (by omega) (Nat.le_of_ble_eq_true rfl) rfl (Nat.le_refl _) (Nat.le_refl _) (e_M_layLog (S := S) (d := d) (n := n) (J := J) (R := R) hn hR hk h1 hh hnh hl hnl hW hH hg2 hg1 hcc hc8 (fun h => ⟨rfl, rfl, Or.inl ⟨rfl, rfl, lg_bad.mp h⟩⟩) (fun h => ⟨rfl, rfl, Or.inr ⟨rfl, rfl, lg_WFg.mp h⟩⟩)) ?_
  intro v2 I2 J2 R2 ⟨e2, e3, e4⟩
  rcases e4 with ⟨e1, e4, hb9⟩ | ⟨e1, e4, hF9⟩
  · exact absurd hb9 (WFg_nb hnh hF)
  · subst e1
    rw [e2, e3, e4]
    show AW _ _ _ _ _ _ _ _ [.int 1] _ _ _ _
    refine a_if_eq (tgt := 37) dM_then_11 (by decide) (fun c => False.elim (absurd c (by decide))) (fun _ => ?_)
    refine a_iload_n 3 dM_then_14 rfl rfl ?_
    refine a_iconstN (a := 0) dM_then_15 (by decide) ?_
    refine a_aload_n 0 dM_then_16 rfl rfl ?_
    refine a_geti dM_then_17 fl12_447 rfl ly_95 (by omega) ?_
    rw [show (lyM (lgI I ko kg) (lyT (lgI I ko kg) ko nh nl kg c)) 95 49 = (nI (ftR (lgI I ko kg) ko nh nl kg c 100).length) from (lyT_49 hnh hH2 hF2)]
    refine a_iconstN (a := 1) dM_then_20 (by decide) ?_
    refine a_isub dM_then_21 ?_
    refine a_callS (Q' := m_res (some (.int 1)) (lyM (lgI I ko kg) (lyT (lgI I ko kg) ko nh nl kg c)) J R) (as := [.int (nI i), .int (nI 0), .int ((nI (ftR (lgI I ko kg) ko nh nl kg c 100).length) - (nI 1))]) (st := []) dM_then_22 ml12_102 rfl (Nat.le_of_ble_eq_true rfl) (Nat.le_of_ble_eq_true rfl) rfl (Nat.le_refl _) (Nat.le_refl _) (c_M_inE (f_in_c hi (by have := ftR_61 (I := (lgI I ko kg)) (ko := ko) (nl := nl) (kg := kg) (c := c) hnh; omega))) (m_go ?_)
    show AW _ _ _ _ _ _ _ _ [.int 1] _ _ _ _
    refine a_if_eq (tgt := 37) dM_then_25 (by decide) (fun c => False.elim (absurd c (by decide))) (fun _ => ?_)
    refine a_aload_n 0 dM_then_28 rfl rfl ?_
    refine a_iload 4 dM_then_29 rfl ?_
    refine a_callV (Q' := m_res (some (.int 1)) (lyM (lgI I ko kg) (lyT (lgI I ko kg) ko nh nl kg c)) J R) (as := [.int (nI h)]) (st := []) dM_then_31 ml12_322 rfl (Nat.le_of_ble_eq_true rfl) ly_95 rfl rfl (by decide) (by omega) (Nat.le_of_ble_eq_true rfl) rfl (Nat.le_refl _) (Nat.le_refl _) (by have h := c_M_isHouse (S := S) (d := d + 6) (n := n) (J := J) (R := R) (I := (lyM (lgI I ko kg) (lyT (lgI I ko kg) ko nh nl kg c))) (h := (nI h)) hn; rw [show (lyM (lgI I ko kg) (lyT (lgI I ko kg) ko nh nl kg c)) 95 24 = nI nh from (lg_24 (kg := kg)).trans hh, f_in_c hh6 (by omega)] at h; exact h) (m_go ?_)
    show AW _ _ _ _ _ _ _ _ [.int 1] _ _ _ _
    refine a_if_ne (tgt := 41) dM_then_34 (by decide) (fun _ => ?_) (fun c => False.elim (absurd c (by decide)))
    refine a_locs (lv' := [(0, .ref 95), (3, .int (nI i)), (4, .int (nI h))]) [0, 3, 4] rfl ?_
    exact b_M_then (S := S) (d := d + 1) (n := n) (J := J) (R := R) (I := (lyM (lgI I ko kg) (lyT (lgI I ko kg) ko nh nl kg c))) (fo := (ftR (lgI I ko kg) ko nh nl kg c 100).length) hn hR (lg_23 (I := I) (kg := kg)) (by omega) ((lg_24 (kg := kg)).trans hh) hnh ((lg_25 (kg := kg)).trans hl) hnl (lg_WFk (kg := kg) hW) hH2 (lyT_49 hnh hH2 hF2) (ftR_61 hnh) (ly_hft hnh hH2 hF2) hi (by omega : h < 6) (fun I' h9 => ⟨by rw [show hmN ((lyM (lgI I ko kg) (lyT (lgI I ko kg) ko nh nl kg c)) 117) i = (ftR (lgI I ko kg) ko nh nl kg c 100).getD i 0 from ly_hm hnh hH2 hF2 hi]; exact congrArg (fun x => some (Value.int x)) (acS_mv hH2 (ftR_ok hnh hi) (by omega)), lyP.kr h9, KF.refl hR⟩)
