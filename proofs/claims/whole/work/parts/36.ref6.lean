theorem bg_crR {I : mI} {ko : Nat} : bgI I ko = crR I (m_fill (fun h => oR I ko (3 + h)) (I 107) 6) (m_fill (fun _ => -1) (I 108) 6) (m_fill (fun _ => 0) (I 109) 6) (I 95 32) (I 95 33) (I 95 34) (I 95 35) (I 95 36) (I 95 37) := by
  have e : cfR (I 95) (I 95 32) (I 95 33) (I 95 34) (I 95 35) (I 95 36) (I 95 37) = I 95 := by
    funext k
    unfold cfR
    repeat' split
    all_goals (first | rfl | (subst_vars; rfl))
  unfold bgI bgK crR
  rw [e, m_row_self]
/-- a course as it begins -/
def opS (I : mI) (ko nl : Nat) : cS := (m_fill (fun h => oR I ko (3 + h)) (I 107) 6, m_fill (fun _ => -1) (I 108) 6, m_fill (fun _ => 0) (I 109) 6, 0, (1 <<< (nI nl &&& 31)) - 1, 0, 0, 0, 0)
theorem opS_WFl {I : mI} {ko nl : Nat} : WFl (opS I ko nl).2.1 := fun h hh => by
  show kOK (m_fill (fun _ => (-1 : Int32)) (I 108) 6 h)
  unfold m_fill
  rw [if_pos hh]
  exact Or.inl rfl
theorem c_M_opens {S : Nat × (Nat → Int32)} {d n : Nat} {I : mI} {J : mJ} {R : mR} {ko nh nl : Nat} (hn : 122 ≤ n) (hR : m_fin R) (ho : I 95 23 = nI ko) (hk : ko < 7) (hh : I 95 24 = nI nh) (hnh : nh ≤ 6) (hl : I 95 25 = nI nl) (hnl : nl ≤ 10) (hW : WFk I ko)  : RUN S (d + 2) YM_opens [.ref 95] I J R n none (crT I (opS I ko nl)) J R n := by
  show AW S _ YM_opens n n _ 0 [(0, .ref 95)] [] I J R n
  refine a_aload_n 0 dM_opens_0 rfl rfl ?_
  refine a_callV (Q' := m_res none (crR I (m_fill (fun h => oR I ko (3 + h)) (I 107) 6) (m_fill (fun _ => -1) (I 108) 6) (m_fill (fun _ => 0) (I 109) 6) (I 95 32) (I 95 33) (I 95 34) (I 95 35) (I 95 36) (I 95 37)) J R) (as := []) (st := []) dM_opens_1 ml12_268 rfl (Nat.le_of_ble_eq_true rfl) ly_95 rfl rfl (by decide) (by omega) (Nat.le_of_ble_eq_true rfl) rfl (Nat.le_refl _) (Nat.le_refl _) (by have h := c_M_begin (S := S) (d := d) (J := J) (I := I) (ko := ko) hn hR ho (by omega); rw [bg_crR] at h; exact h) (m_go ?_)
  show AW _ _ _ _ _ _ _ _ [] _ _ _ _
  refine a_aload_n 0 dM_opens_4 rfl rfl ?_
  refine a_iconstN (a := 0) dM_opens_5 (by decide) ?_
  refine a_puti dM_opens_6 fl12_298 rfl ly_95 (by omega) ?_
  rw [crR_32]
  refine a_aload_n 0 dM_opens_9 rfl rfl ?_
  refine a_iconstN (a := 1) dM_opens_10 (by decide) ?_
  refine a_aload_n 0 dM_opens_11 rfl rfl ?_
  refine a_geti dM_opens_12 fl12_262 rfl ly_95 (by omega) ?_
  rw [show (crR I (m_fill (fun h => oR I ko (3 + h)) (I 107) 6) (m_fill (fun _ => -1) (I 108) 6) (m_fill (fun _ => 0) (I 109) 6) (nI 0) (I 95 33) (I 95 34) (I 95 35) (I 95 36) (I 95 37)) 95 25 = (nI nl) from (by rw [crR_f (by decide)]; exact hl)]
  refine a_ishl dM_opens_15 ?_
  refine a_iconstN (a := 1) dM_opens_16 (by decide) ?_
  refine a_isub dM_opens_17 ?_
  refine a_puti dM_opens_18 fl12_301 rfl ly_95 (by omega) ?_
  rw [crR_33]
  refine a_aload_n 0 dM_opens_21 rfl rfl ?_
  refine a_iconstN (a := 0) dM_opens_22 (by decide) ?_
  refine a_puti dM_opens_23 fl12_304 rfl ly_95 (by omega) ?_
  rw [crR_34]
  refine a_aload_n 0 dM_opens_26 rfl rfl ?_
  refine a_iconstN (a := 0) dM_opens_27 (by decide) ?_
  refine a_puti dM_opens_28 fl12_307 rfl ly_95 (by omega) ?_
  rw [crR_35]
  refine a_aload_n 0 dM_opens_31 rfl rfl ?_
  refine a_iconstN (a := 0) dM_opens_32 (by decide) ?_
  refine a_puti dM_opens_33 fl12_310 rfl ly_95 (by omega) ?_
  rw [crR_36]
  refine a_aload_n 0 dM_opens_36 rfl rfl ?_
  refine a_iconstN (a := 0) dM_opens_37 (by decide) ?_
  refine a_puti dM_opens_38 fl12_313 rfl ly_95 (by omega) ?_
  rw [crR_37]
  exact a_vret dM_opens_41 rfl ⟨rfl, rfl, rfl, rfl⟩
/-- the k-th deed of a week of the reference -/
abbrev wkR0 (I : mI) (kw k u : Nat) : Int32 := I 102 (121 * kw + 1 + 3 * k + u)
abbrev stR (I : mI) (ko nh nl kw : Nat) (k : Nat) (s : cS) : Option cS := doF nh nl (I 106) (dsR I ko) (bsR I ko) (fun l => oR I ko (19 + l)) 6 s (wkR0 I kw k 0).toNatClampNeg (wkR0 I kw k 1) (wkR0 I kw k 2)
def WFw (I : mI) (kw c : Nat) : Prop := ∀ k, k < c → ∃ u, u < 4 ∧ wkR0 I kw k 0 = nI u
theorem slS_2 {s : cS} {x : Int32} : (slS s x).2.1 = s.2.1 := rfl
theorem doF_WFl {nh nl : Nat} {hm : Nat → Int32} {ds : Nat → Int32 → Int32} {bs kd : Nat → Int32} {H : Nat} {s s' : cS} {u : Nat} {l h : Int32} (hnl : nl ≤ 10) (hk : ∀ l, l < nl → kOK (kd l)) (hL : WFl s.2.1) (e : doF nh nl hm ds bs kd H s u l h = some s') : WFl s'.2.1 := by
  by_cases h3 : u = 3
  · subst h3
    rw [doF_3] at e
    cases e
    intro q hq
    show kOK (m_fill (fun _ => (-1 : Int32)) s.2.1 H q)
    unfold m_fill
    split
    · exact Or.inl rfl
    · exact hL q hq
  by_cases h0 : f_in l 0 (nI nl - 1) = 0 ∨ f_has s.2.2.2.2.1 l = 0
  · rw [doF_n h3 h0] at e
    cases e
  have h1 : ¬ f_in l 0 (nI nl - 1) = 0 := fun c => h0 (Or.inl c)
  obtain ⟨j, hj, rfl⟩ := f_in_nz (by omega) h1
  have key : ∀ (a : Nat), WFl (gvS ds bs kd s (nI j).toNatClampNeg a).2.1 := by
    intro a q hq
    show kOK (va_up s.2.1 a (kd (nI j).toNatClampNeg) q)
    unfold va_up
    split
    · rw [nI_clamp (by omega)]; exact hk j hj
    · exact hL q hq
  unfold doF at e
  rw [if_neg h3, if_neg h0] at e
  split at e
  · cases e
  · split at e
    · cases e; exact hL
    · split at e
      · cases e; exact key _
      · cases e; exact key _
/-- deeds one behind another, as far as they can be done -/
def plF (stp : Nat → cS → Option cS) : Nat → Nat → cS → Nat × cS
  | 0, k, s => (k, s)
  | m + 1, k, s => match stp k s with
    | none => (k, s)
    | some s' => plF stp m (k + 1) s' 
theorem c_M_doesDeed {S : Nat × (Nat → Int32)} {d n : Nat} {I : mI} {J : mJ} {R : mR} {s : cS} {ko nh nl : Nat} (hn : 122 ≤ n) (hR : m_fin R) (ho : I 95 23 = nI ko) (hk : ko < 7) (hh : I 95 24 = nI nh) (hnh : nh ≤ 6) (hl : I 95 25 = nI nl) (hnl : nl ≤ 10) (hW : WFk I ko) {kw : Nat} (hkw : I 95 31 = nI kw) (hw2 : kw < 2) (hH : WFh (I 106) nl) {k u : Nat} (hk40 : k < 40) (hu : wkR0 I kw k 0 = nI u) (hu4 : u < 4) (hL : WFl s.2.1) : RUN S (d + 7) YM_doesDeed [.ref 95, .int (nI k)] (crT I s) J R n (some (.int (if stR I ko nh nl kw k s = none then 0 else 1))) (crT I ((stR I ko nh nl kw k s).getD s)) J R n := by
  have eu : stR I ko nh nl kw k s = doF nh nl (I 106) (dsR I ko) (bsR I ko) (fun l => oR I ko (19 + l)) 6 s u (wkR0 I kw k 1) (wkR0 I kw k 2) := by unfold stR; rw [hu, nI_clamp (by omega)]
  rw [eu]
  show AW S _ YM_doesDeed n n _ 0 [(0, .ref 95), (1, .int (nI k))] [] (crR I s.1 s.2.1 s.2.2.1 s.2.2.2.1 s.2.2.2.2.1 s.2.2.2.2.2.1 s.2.2.2.2.2.2.1 s.2.2.2.2.2.2.2.1 s.2.2.2.2.2.2.2.2) J R n
  refine a_aload_n 0 dM_doesDeed_0 rfl rfl ?_
  refine a_aload_n 0 dM_doesDeed_1 rfl rfl ?_
  refine a_iload_n 1 dM_doesDeed_2 rfl rfl ?_
  refine a_iconstN (a := 0) dM_doesDeed_3 (by decide) ?_
  refine a_callV (Q' := m_res (some (.int (nI u))) (crR I s.1 s.2.1 s.2.2.1 s.2.2.2.1 s.2.2.2.2.1 s.2.2.2.2.2.1 s.2.2.2.2.2.2.1 s.2.2.2.2.2.2.2.1 s.2.2.2.2.2.2.2.2) J R) (as := [.int (nI k), .int (nI 0)]) (st := [.ref 95]) dM_doesDeed_4 ml12_295 rfl (Nat.le_of_ble_eq_true rfl) ly_95 rfl rfl (by decide) (by omega) (Nat.le_of_ble_eq_true rfl) rfl (Nat.le_refl _) (Nat.le_refl _) (by have h := c_M_deedOf (S := S) (d := d + 6) (J := J) (I := (crR I s.1 s.2.1 s.2.2.1 s.2.2.2.1 s.2.2.2.2.1 s.2.2.2.2.2.1 s.2.2.2.2.2.2.1 s.2.2.2.2.2.2.2.1 s.2.2.2.2.2.2.2.2)) (kw := kw) (k := k) (u := 0) hn hR (by rw [crR_f (by decide)]; exact hkw) hw2 (by omega) (by omega); rw [crR_o (by decide) (by decide) (by decide) (by decide), show I 102 (121 * kw + 1 + 3 * k + 0) = nI u from hu] at h; exact h) (m_go ?_)
  show AW _ _ _ _ _ _ _ _ [.int (nI u), .ref 95] _ _ _ _
  refine a_aload_n 0 dM_doesDeed_7 rfl rfl ?_
  refine a_iload_n 1 dM_doesDeed_8 rfl rfl ?_
  refine a_iconstN (a := 1) dM_doesDeed_9 (by decide) ?_
  refine a_callV (Q' := m_res (some (.int (wkR0 I kw k 1))) (crR I s.1 s.2.1 s.2.2.1 s.2.2.2.1 s.2.2.2.2.1 s.2.2.2.2.2.1 s.2.2.2.2.2.2.1 s.2.2.2.2.2.2.2.1 s.2.2.2.2.2.2.2.2) J R) (as := [.int (nI k), .int (nI 1)]) (st := [.int (nI u), .ref 95]) dM_doesDeed_10 ml12_295 rfl (Nat.le_of_ble_eq_true rfl) ly_95 rfl rfl (by decide) (by omega) (Nat.le_of_ble_eq_true rfl) rfl (Nat.le_refl _) (Nat.le_refl _) (by have h := c_M_deedOf (S := S) (d := d + 6) (J := J) (I := (crR I s.1 s.2.1 s.2.2.1 s.2.2.2.1 s.2.2.2.2.1 s.2.2.2.2.2.1 s.2.2.2.2.2.2.1 s.2.2.2.2.2.2.2.1 s.2.2.2.2.2.2.2.2)) (kw := kw) (k := k) (u := 1) hn hR (by rw [crR_f (by decide)]; exact hkw) hw2 (by omega) (by omega); rw [crR_o (by decide) (by decide) (by decide) (by decide)] at h; exact h) (m_go ?_)
  show AW _ _ _ _ _ _ _ _ [.int (wkR0 I kw k 1), .int (nI u), .ref 95] _ _ _ _
  refine a_aload_n 0 dM_doesDeed_13 rfl rfl ?_
  refine a_iload_n 1 dM_doesDeed_14 rfl rfl ?_
  refine a_iconstN (a := 2) dM_doesDeed_15 (by decide) ?_
  refine a_callV (Q' := m_res (some (.int (wkR0 I kw k 2))) (crR I s.1 s.2.1 s.2.2.1 s.2.2.2.1 s.2.2.2.2.1 s.2.2.2.2.2.1 s.2.2.2.2.2.2.1 s.2.2.2.2.2.2.2.1 s.2.2.2.2.2.2.2.2) J R) (as := [.int (nI k), .int (nI 2)]) (st := [.int (wkR0 I kw k 1), .int (nI u), .ref 95]) dM_doesDeed_16 ml12_295 rfl (Nat.le_of_ble_eq_true rfl) ly_95 rfl rfl (by decide) (by omega) (Nat.le_of_ble_eq_true rfl) rfl (Nat.le_refl _) (Nat.le_refl _) (by have h := c_M_deedOf (S := S) (d := d + 6) (J := J) (I := (crR I s.1 s.2.1 s.2.2.1 s.2.2.2.1 s.2.2.2.2.1 s.2.2.2.2.2.1 s.2.2.2.2.2.2.1 s.2.2.2.2.2.2.2.1 s.2.2.2.2.2.2.2.2)) (kw := kw) (k := k) (u := 2) hn hR (by rw [crR_f (by decide)]; exact hkw) hw2 (by omega) (by omega); rw [crR_o (by decide) (by decide) (by decide) (by decide)] at h; exact h) (m_go ?_)
  show AW _ _ _ _ _ _ _ _ [.int (wkR0 I kw k 2), .int (wkR0 I kw k 1), .int (nI u), .ref 95] _ _ _ _
  refine a_callV (Q' := m_res (some (.int (if doF nh nl (I 106) (dsR I ko) (bsR I ko) (fun l => oR I ko (19 + l)) 6 s u (wkR0 I kw k 1) (wkR0 I kw k 2) = none then 0 else 1))) (crT I ((doF nh nl (I 106) (dsR I ko) (bsR I ko) (fun l => oR I ko (19 + l)) 6 s u (wkR0 I kw k 1) (wkR0 I kw k 2)).getD s)) J R) (as := [.int (nI u), .int (wkR0 I kw k 1), .int (wkR0 I kw k 2)]) (st := []) dM_doesDeed_19 ml12_328 rfl (Nat.le_of_ble_eq_true rfl) ly_95 rfl rfl (by decide) (by omega) (Nat.le_of_ble_eq_true rfl) rfl (Nat.le_refl _) (Nat.le_refl _) (c_M_doesG (s := s) hn hR ho hk hh hnh hl hnl hW hu4 hH hL) (m_go ?_)
  show AW _ _ _ _ _ _ _ _ [.int (if doF nh nl (I 106) (dsR I ko) (bsR I ko) (fun l => oR I ko (19 + l)) 6 s u (wkR0 I kw k 1) (wkR0 I kw k 2) = none then 0 else 1)] _ _ _ _
  exact a_zret dM_doesDeed_22 rfl (by split <;> rfl) ⟨rfl, rfl, rfl, rfl⟩
theorem l_M_play {S : Nat × (Nat → Int32)} {d n : Nat} {I : mI} {J : mJ} {R : mR} {ko nh nl : Nat} (hn : 122 ≤ n) (hR : m_fin R) (ho : I 95 23 = nI ko) (hk : ko < 7) (hh : I 95 24 = nI nh) (hnh : nh ≤ 6) (hl : I 95 25 = nI nl) (hnl : nl ≤ 10) (hW : WFk I ko) {kw : Nat} (hkw : I 95 31 = nI kw) (hw2 : kw < 2) (hH : WFh (I 106) nl) {N c : Nat} (hN : N ≤ c) (hc : c ≤ 40) (hw : WFw I kw c) {Q : Option Value → mI → mJ → mR → Prop} : ∀ m k (s : cS), k + m = N → WFl s.2.1 → Q (some (.int (nI (plF (stR I ko nh nl kw) m k s).1))) (crT I (plF (stR I ko nh nl kw) m k s).2) J R → AW S (d + 8) YM_play n n Q 6 [(2, .int (nI k)), (0, .ref 95), (1, .int (nI N))] [] (crT I s) J R n := by
  intro m
  induction m with
  | zero =>
    intro k s hk9 hL hQ
    rw [show k = N by omega] at hQ ⊢
    refine a_iload_n 0 dM_play_6 rfl rfl ?_
    refine a_iload_n 2 dM_play_7 rfl rfl ?_
    refine a_icmp_geN (tgt := 25) dM_play_8 (by decide) (by omega) (by omega) (fun _ => ?_) (fun c => False.elim (by omega))
    refine a_iload_n 0 dM_play_25 rfl rfl ?_
    exact a_iret dM_play_26 rfl hQ
  | succ m ih =>
    intro k s hk9 hL hQ
    obtain ⟨u, hu4, hu⟩ := hw k (by omega)
    have hdd := c_M_doesDeed (S := S) (d := d) (J := J) (s := s) hn hR ho hk hh hnh hl hnl hW hkw hw2 hH (k := k) (by omega) hu hu4 hL
    unfold plF at hQ
    cases e : stR I ko nh nl kw k s with
    | none =>
      rw [e] at hdd hQ
      simp only [if_true, Option.getD_none] at hdd
      refine a_iload_n 0 dM_play_6 rfl rfl ?_
      refine a_iload_n 2 dM_play_7 rfl rfl ?_
      refine a_icmp_geN (tgt := 25) dM_play_8 (by decide) (by omega) (by omega) (fun c => False.elim (by omega)) (fun _ => ?_)
      refine a_aload_n 1 dM_play_11 rfl rfl ?_
      refine a_iload_n 0 dM_play_12 rfl rfl ?_
      refine a_callV (Q' := m_res (some (.int 0)) (crT I s) J R) (as := [.int (nI k)]) (st := []) dM_play_13 ml12_334 rfl (Nat.le_of_ble_eq_true rfl) ly_95 rfl rfl (by decide) (by omega) (Nat.le_of_ble_eq_true rfl) rfl (Nat.le_refl _) (Nat.le_refl _) hdd (m_go ?_)
      show AW _ _ _ _ _ _ _ _ [.int 0] _ _ _ _
      refine a_if_eq (tgt := 25) dM_play_16 (by decide) (fun _ => ?_) (fun c => False.elim (c rfl))
      refine a_iload_n 0 dM_play_25 rfl rfl ?_
      exact a_iret dM_play_26 rfl hQ
    | some s' =>
      rw [e] at hdd hQ
      simp only [reduceCtorEq, if_false, Option.getD_some] at hdd
      refine a_iload_n 0 dM_play_6 rfl rfl ?_
      refine a_iload_n 2 dM_play_7 rfl rfl ?_
      refine a_icmp_geN (tgt := 25) dM_play_8 (by decide) (by omega) (by omega) (fun c => False.elim (by omega)) (fun _ => ?_)
      refine a_aload_n 1 dM_play_11 rfl rfl ?_
      refine a_iload_n 0 dM_play_12 rfl rfl ?_
      refine a_callV (Q' := m_res (some (.int 1)) (crT I s') J R) (as := [.int (nI k)]) (st := []) dM_play_13 ml12_334 rfl (Nat.le_of_ble_eq_true rfl) ly_95 rfl rfl (by decide) (by omega) (Nat.le_of_ble_eq_true rfl) rfl (Nat.le_refl _) (Nat.le_refl _) hdd (m_go ?_)
      show AW _ _ _ _ _ _ _ _ [.int 1] _ _ _ _
      refine a_if_eq (tgt := 25) dM_play_16 (by decide) (fun c => False.elim (absurd c (by decide))) (fun _ => ?_)
      refine a_iincN (lv' := [(2, .int (nI (k + 1))), (0, .ref 95), (1, .int (nI N))]) (j := 0) dM_play_19 rfl (by decide) rfl ?_
      refine a_goto (tgt := 6) dM_play_22 (by decide) ?_
      refine a_locs (lv' := [(2, .int (nI (k + 1))), (0, .ref 95), (1, .int (nI N))]) [0, 1, 2] rfl ?_
      exact ih (k + 1) s' (by omega) (doF_WFl hnl (fun l hl => hW.ok (by omega)) hL e) hQ
abbrev plR (I : mI) (ko nh nl kw N : Nat) : Nat × cS := plF (stR I ko nh nl kw) N 0 (opS I ko nl)
theorem c_M_play {S : Nat × (Nat → Int32)} {d n : Nat} {I : mI} {J : mJ} {R : mR} {ko nh nl : Nat} (hn : 122 ≤ n) (hR : m_fin R) (ho : I 95 23 = nI ko) (hk : ko < 7) (hh : I 95 24 = nI nh) (hnh : nh ≤ 6) (hl : I 95 25 = nI nl) (hnl : nl ≤ 10) (hW : WFk I ko) {kw : Nat} (hkw : I 95 31 = nI kw) (hw2 : kw < 2) (hH : WFh (I 106) nl) {N c : Nat} (hN : N ≤ c) (hc : c ≤ 40) (hw : WFw I kw c)  : RUN S (d + 8) YM_play [.ref 95, .int (nI N)] I J R n (some (.int (nI (plR I ko nh nl kw N).1))) (crT I (plR I ko nh nl kw N).2) J R n := by
  show AW S _ YM_play n n _ 0 [(0, .ref 95), (1, .int (nI N))] [] I J R n
  refine a_aload_n 0 dM_play_0 rfl rfl ?_
  refine a_callV (Q' := m_res none (crT I (opS I ko nl)) J R) (as := []) (st := []) dM_play_1 ml12_331 rfl (Nat.le_of_ble_eq_true rfl) ly_95 rfl rfl (by decide) (by omega) (Nat.le_of_ble_eq_true rfl) rfl (Nat.le_refl _) (Nat.le_refl _) (c_M_opens hn hR ho hk hh hnh hl hnl hW) (m_go ?_)
  show AW _ _ _ _ _ _ _ _ [] _ _ _ _
  refine a_iconstN (a := 0) dM_play_4 (by decide) ?_
  refine a_istore_n (lv' := [(2, .int (nI 0)), (0, .ref 95), (1, .int (nI N))]) dM_play_5 rfl (by decide) rfl ?_
  refine a_locs (lv' := [(2, .int (nI 0)), (0, .ref 95), (1, .int (nI N))]) [0, 1, 2] rfl ?_
  exact l_M_play hn hR ho hk hh hnh hl hnl hW hkw hw2 hH hN hc hw N 0 _ (by omega) opS_WFl ⟨rfl, rfl, rfl, rfl⟩
def smN (f : Nat → Int32) : Nat → Int32
  | 0 => 0
  | k + 1 => smN f k + f k
theorem l_M_allMoods {S : Nat × (Nat → Int32)} {d n : Nat} {I : mI} {J : mJ} {R : mR} {nh : Nat} (hn : 122 ≤ n) (hR : m_fin R) (hh : I 95 24 = nI nh) (hnh : nh ≤ 6)  {Q : Option Value → mI → mJ → mR → Prop} (hQ : Q (some (.int (smN (I 107) nh))) I J R) : ∀ m k, k + m = nh → AW S d YM_allMoods n n Q 4 [(2, .int (nI k)), (1, .int (smN (I 107) k)), (0, .ref 95)] [] I J R n := by
  intro m
  induction m with
  | zero =>
    intro k hk
    rw [show k = nh by omega]
    refine a_iload_n 0 dM_allMoods_4 rfl rfl ?_
    refine a_aload_n 2 dM_allMoods_5 rfl rfl ?_
    refine a_geti dM_allMoods_6 fl12_259 rfl ly_95 (by omega) ?_
    rw [show I 95 24 = (nI nh) from hh]
    refine a_icmp_geN (tgt := 27) dM_allMoods_9 (by decide) (by omega) (by omega) (fun _ => ?_) (fun c => False.elim (by omega))
    refine a_iload_n 1 dM_allMoods_27 rfl rfl ?_
    exact a_iret dM_allMoods_28 rfl hQ
  | succ m ih =>
    intro k hk
    refine a_iload_n 0 dM_allMoods_4 rfl rfl ?_
    refine a_aload_n 2 dM_allMoods_5 rfl rfl ?_
    refine a_geti dM_allMoods_6 fl12_259 rfl ly_95 (by omega) ?_
    rw [show I 95 24 = (nI nh) from hh]
    refine a_icmp_geN (tgt := 27) dM_allMoods_9 (by decide) (by omega) (by omega) (fun c => False.elim (by omega)) (fun _ => ?_)
    refine a_iload_n 1 dM_allMoods_12 rfl rfl ?_
    refine a_aload_n 2 dM_allMoods_13 rfl rfl ?_
    refine a_geta (r := 107) dM_allMoods_14 fl12_44 rfl ly_95 (by omega) (rf_95_27 hR) ?_
    refine a_iload_n 0 dM_allMoods_17 rfl rfl ?_
    refine a_ialdN (a := k) dM_allMoods_18 ly_107 (by omega) (by omega) (by decide) ?_
    refine a_iadd dM_allMoods_19 ?_
    refine a_istore_n (lv' := [(1, .int ((smN (I 107) k) + (I 107 k))), (2, .int (nI k)), (0, .ref 95)]) dM_allMoods_20 rfl (by decide) rfl ?_
    refine a_iincN (lv' := [(2, .int (nI (k + 1))), (1, .int ((smN (I 107) k) + (I 107 k))), (0, .ref 95)]) (j := 1) dM_allMoods_21 rfl (by decide) rfl ?_
    refine a_goto (tgt := 4) dM_allMoods_24 (by decide) ?_
    refine a_locs (lv' := [(2, .int (nI (k + 1))), (1, .int ((smN (I 107) k) + (I 107 k))), (0, .ref 95)]) [0, 1, 2] rfl ?_
    have hh := ih (k + 1) (by omega)
    exact hh
theorem c_M_allMoods {S : Nat × (Nat → Int32)} {d n : Nat} {I : mI} {J : mJ} {R : mR} {nh : Nat} (hn : 122 ≤ n) (hR : m_fin R) (hh : I 95 24 = nI nh) (hnh : nh ≤ 6)  : RUN S d YM_allMoods [.ref 95] I J R n (some (.int (smN (I 107) nh))) I J R n := by
  show AW S _ YM_allMoods n n _ 0 [(0, .ref 95)] [] I J R n
  refine a_iconstN (a := 0) dM_allMoods_0 (by decide) ?_
  refine a_istore_n (lv' := [(1, .int (nI 0)), (0, .ref 95)]) dM_allMoods_1 rfl (by decide) rfl ?_
  refine a_iconstN (a := 0) dM_allMoods_2 (by decide) ?_
  refine a_istore_n (lv' := [(2, .int (nI 0)), (1, .int (nI 0)), (0, .ref 95)]) dM_allMoods_3 rfl (by decide) rfl ?_
  refine a_locs (lv' := [(2, .int (nI 0)), (1, .int (nI 0)), (0, .ref 95)]) [0, 1, 2] rfl ?_
  exact l_M_allMoods hn hR hh hnh ⟨rfl, rfl, rfl, rfl⟩ nh 0 (by omega)
