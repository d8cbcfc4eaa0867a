/-- where a letter comes: a slip, or home -/
def hvS (sp : Nat) (f : Nat → Int32) (l : Nat) : Nat := if sp < 99 ∧ sp % 10 = l then sp / 10 else hmN f l
theorem hvS_lt {sp nl l : Nat} {f : Nat → Int32} (hH : WFh f nl) (hs : sp < 60 ∨ sp = 99) (hl : l < nl) : hvS sp f l < 6 := by
  unfold hvS
  split
  · omega
  · exact (hH.hm hl).2
theorem l_acm {S : Nat × (Nat → Int32)} {d n : Nat} {I : mI} {J : mJ} {R : mR} {ko nh nl : Nat} (hn : 122 ≤ n) (hR : m_fin R) (ho : I 95 23 = nI ko) (hk : ko < 7) (hh : I 95 24 = nI nh) (hnh : nh ≤ 6) (hl : I 95 25 = nI nl) (hnl : nl ≤ 10) (hW : WFk I ko) (hH : WFh (I 106) nl) {sp : Nat} (hs : sp < 60 ∨ sp = 99) {s0 : g3}   {Q : Option Value → mI → mJ → mR → Prop} (hI : ∀ h, h < 6 → kOK (s0.2.1 h)) (hx : AW S (d + 5) YM_allCome n n Q 53 [(2, .int (nI nl)), (0, .ref 95), (1, .int (nI sp))] [] (m_row (m_row (m_row I 107 ((acN (dsR I ko) (fun l => oR I ko (19 + l)) (hvS sp (I 106)) s0 nl).1)) 108 ((acN (dsR I ko) (fun l => oR I ko (19 + l)) (hvS sp (I 106)) s0 nl).2.1)) 109 ((acN (dsR I ko) (fun l => oR I ko (19 + l)) (hvS sp (I 106)) s0 nl).2.2)) J R n) : ∀ m k, k + m = nl → ∀ s : (Nat → Int32) × (Nat → Int32) × (Nat → Int32), acN (dsR I ko) (fun l => oR I ko (19 + l)) (hvS sp (I 106)) s0 k = s → AW S (d + 5) YM_allCome n n Q 6 [(2, .int (nI k)), (0, .ref 95), (1, .int (nI sp))] [] (m_row (m_row (m_row I 107 s.1) 108 s.2.1) 109 s.2.2) J R n := by
  intro m
  induction m with
  | zero =>
    intro k hk9 s es
    rw [show k = nl by omega] at es ⊢
    subst es
    refine a_iload_n 0 dM_allCome_6 rfl rfl ?_
    refine a_aload_n 1 dM_allCome_7 rfl rfl ?_
    refine a_geti dM_allCome_8 fl12_262 rfl ly_95 (by omega) ?_
    rw [show (m_row (m_row (m_row I 107 ((acN (dsR I ko) (fun l => oR I ko (19 + l)) (hvS sp (I 106)) s0 nl).1)) 108 ((acN (dsR I ko) (fun l => oR I ko (19 + l)) (hvS sp (I 106)) s0 nl).2.1)) 109 ((acN (dsR I ko) (fun l => oR I ko (19 + l)) (hvS sp (I 106)) s0 nl).2.2)) 95 25 = (nI nl) from hl]
    refine a_icmp_geN (tgt := 53) dM_allCome_11 (by decide) (by omega) (by omega) (fun _ => ?_) (fun c => False.elim (by omega))
    exact hx
  | succ m ih =>
    intro k hk9 s es
    have hq := acN_ok (ds := dsR I ko) (kd := fun l => oR I ko (19 + l)) (hv := hvS sp (I 106)) (s0 := s0) hI k (fun l hl => hW.ok (by omega)) (hvS sp (I 106) k) (hvS_lt hH hs (by omega))
    rw [es] at hq
    refine a_iload_n 0 dM_allCome_6 rfl rfl ?_
    refine a_aload_n 1 dM_allCome_7 rfl rfl ?_
    refine a_geti dM_allCome_8 fl12_262 rfl ly_95 (by omega) ?_
    rw [show (m_row (m_row (m_row I 107 s.1) 108 s.2.1) 109 s.2.2) 95 25 = (nI nl) from hl]
    refine a_icmp_geN (tgt := 53) dM_allCome_11 (by decide) (by omega) (by omega) (fun c => False.elim (by omega)) (fun _ => ?_)
    refine a_aload_n 1 dM_allCome_14 rfl rfl ?_
    refine a_iload_n 0 dM_allCome_15 rfl rfl ?_
    refine a_iload_n 2 dM_allCome_16 rfl rfl ?_
    refine a_bipushN (a := 99) dM_allCome_17 (by decide) ?_
    refine a_icmp_geN (tgt := 37) dM_allCome_19 (by decide) (by omega) (by omega) (fun c19 => ?_) (fun c19 => ?_)
    · refine a_aload_n 1 dM_allCome_37 rfl rfl ?_
      refine a_geta (r := 106) dM_allCome_38 fl12_41 rfl ly_95 (by omega) (rf_95_26 hR) ?_
      refine a_iload_n 0 dM_allCome_41 rfl rfl ?_
      refine a_ialdN (a := k) dM_allCome_42 ly_106 (by omega) (by omega) (by decide) ?_
      rw [show (m_row (m_row (m_row I 107 s.1) 108 s.2.1) 109 s.2.2) 106 k = I 106 k from rfl]
      rw [show (I 106 k) = (nI (hvS sp (I 106) k)) from (by unfold hvS; rw [if_neg (by omega)]; exact (hH.hm (by omega)).1)]
      refine a_callV (Q' := m_res (some (.int (dsR I ko k (s.2.1 (hvS sp (I 106) k))))) (m_row (m_row (m_row I 107 (va_up s.1 (hvS sp (I 106) k) (s.1 (hvS sp (I 106) k) + dsR I ko k (s.2.1 (hvS sp (I 106) k))))) 108 (va_up s.2.1 (hvS sp (I 106) k) (oR I ko (19 + k)))) 109 (va_up s.2.2 (hvS sp (I 106) k) (s.2.2 (hvS sp (I 106) k) + 1))) J R) (as := [.int (nI k), .int (nI (hvS sp (I 106) k))]) (st := []) dM_allCome_43 ml12_316 rfl (Nat.le_of_ble_eq_true rfl) ly_95 rfl rfl (by decide) (by omega) (Nat.le_of_ble_eq_true rfl) rfl (Nat.le_refl _) (Nat.le_refl _) (c_M_comesM hn hR ho hk hh hnh hl hnl hW (by omega) (hvS_lt hH hs (by omega)) hq) (m_go ?_)
      show AW _ _ _ _ _ _ _ _ [.int (dsR I ko k (s.2.1 (hvS sp (I 106) k)))] _ _ _ _
      refine a_pop dM_allCome_46 rfl ?_
      refine a_iincN (lv' := [(2, .int (nI (k + 1))), (0, .ref 95), (1, .int (nI sp))]) (j := 0) dM_allCome_47 rfl (by decide) rfl ?_
      refine a_goto (tgt := 6) dM_allCome_50 (by decide) ?_
      have e' : acN (dsR I ko) (fun l => oR I ko (19 + l)) (hvS sp (I 106)) s0 (k + 1) = ((va_up s.1 (hvS sp (I 106) k) (s.1 (hvS sp (I 106) k) + dsR I ko k (s.2.1 (hvS sp (I 106) k)))), (va_up s.2.1 (hvS sp (I 106) k) (oR I ko (19 + k))), (va_up s.2.2 (hvS sp (I 106) k) (s.2.2 (hvS sp (I 106) k) + 1))) := by
        unfold acN
        rw [es]
      exact ih (k + 1) (by omega) ((va_up s.1 (hvS sp (I 106) k) (s.1 (hvS sp (I 106) k) + dsR I ko k (s.2.1 (hvS sp (I 106) k)))), (va_up s.2.1 (hvS sp (I 106) k) (oR I ko (19 + k))), (va_up s.2.2 (hvS sp (I 106) k) (s.2.2 (hvS sp (I 106) k) + 1))) e'
    · refine a_iload_n 2 dM_allCome_22 rfl rfl ?_
      refine a_bipushN (a := 10) dM_allCome_23 (by decide) ?_
      refine a_iremN dM_allCome_25 (by omega) (by omega) (by omega) ?_
      refine a_iload_n 0 dM_allCome_26 rfl rfl ?_
      refine a_icmp_neN (tgt := 37) dM_allCome_27 (by decide) (by omega) (by omega) (fun c27 => ?_) (fun c27 => ?_)
      · refine a_aload_n 1 dM_allCome_37 rfl rfl ?_
        refine a_geta (r := 106) dM_allCome_38 fl12_41 rfl ly_95 (by omega) (rf_95_26 hR) ?_
        refine a_iload_n 0 dM_allCome_41 rfl rfl ?_
        refine a_ialdN (a := k) dM_allCome_42 ly_106 (by omega) (by omega) (by decide) ?_
        rw [show (m_row (m_row (m_row I 107 s.1) 108 s.2.1) 109 s.2.2) 106 k = I 106 k from rfl]
        rw [show (I 106 k) = (nI (hvS sp (I 106) k)) from (by unfold hvS; rw [if_neg (by omega)]; exact (hH.hm (by omega)).1)]
        refine a_callV (Q' := m_res (some (.int (dsR I ko k (s.2.1 (hvS sp (I 106) k))))) (m_row (m_row (m_row I 107 (va_up s.1 (hvS sp (I 106) k) (s.1 (hvS sp (I 106) k) + dsR I ko k (s.2.1 (hvS sp (I 106) k))))) 108 (va_up s.2.1 (hvS sp (I 106) k) (oR I ko (19 + k)))) 109 (va_up s.2.2 (hvS sp (I 106) k) (s.2.2 (hvS sp (I 106) k) + 1))) J R) (as := [.int (nI k), .int (nI (hvS sp (I 106) k))]) (st := []) dM_allCome_43 ml12_316 rfl (Nat.le_of_ble_eq_true rfl) ly_95 rfl rfl (by decide) (by omega) (Nat.le_of_ble_eq_true rfl) rfl (Nat.le_refl _) (Nat.le_refl _) (c_M_comesM hn hR ho hk hh hnh hl hnl hW (by omega) (hvS_lt hH hs (by omega)) hq) (m_go ?_)
        show AW _ _ _ _ _ _ _ _ [.int (dsR I ko k (s.2.1 (hvS sp (I 106) k)))] _ _ _ _
        refine a_pop dM_allCome_46 rfl ?_
        refine a_iincN (lv' := [(2, .int (nI (k + 1))), (0, .ref 95), (1, .int (nI sp))]) (j := 0) dM_allCome_47 rfl (by decide) rfl ?_
        refine a_goto (tgt := 6) dM_allCome_50 (by decide) ?_
        have e' : acN (dsR I ko) (fun l => oR I ko (19 + l)) (hvS sp (I 106)) s0 (k + 1) = ((va_up s.1 (hvS sp (I 106) k) (s.1 (hvS sp (I 106) k) + dsR I ko k (s.2.1 (hvS sp (I 106) k)))), (va_up s.2.1 (hvS sp (I 106) k) (oR I ko (19 + k))), (va_up s.2.2 (hvS sp (I 106) k) (s.2.2 (hvS sp (I 106) k) + 1))) := by
          unfold acN
          rw [es]
        exact ih (k + 1) (by omega) ((va_up s.1 (hvS sp (I 106) k) (s.1 (hvS sp (I 106) k) + dsR I ko k (s.2.1 (hvS sp (I 106) k)))), (va_up s.2.1 (hvS sp (I 106) k) (oR I ko (19 + k))), (va_up s.2.2 (hvS sp (I 106) k) (s.2.2 (hvS sp (I 106) k) + 1))) e'
      · refine a_iload_n 2 dM_allCome_30 rfl rfl ?_
        refine a_bipushN (a := 10) dM_allCome_31 (by decide) ?_
        refine a_idivN dM_allCome_33 (by omega) (by omega) (by omega) ?_
        rw [show (nI (sp / 10)) = (nI (hvS sp (I 106) k)) from (by unfold hvS; rw [if_pos ⟨by omega, by omega⟩])]
        refine a_goto (tgt := 43) dM_allCome_34 (by decide) ?_
        refine a_callV (Q' := m_res (some (.int (dsR I ko k (s.2.1 (hvS sp (I 106) k))))) (m_row (m_row (m_row I 107 (va_up s.1 (hvS sp (I 106) k) (s.1 (hvS sp (I 106) k) + dsR I ko k (s.2.1 (hvS sp (I 106) k))))) 108 (va_up s.2.1 (hvS sp (I 106) k) (oR I ko (19 + k)))) 109 (va_up s.2.2 (hvS sp (I 106) k) (s.2.2 (hvS sp (I 106) k) + 1))) J R) (as := [.int (nI k), .int (nI (hvS sp (I 106) k))]) (st := []) dM_allCome_43 ml12_316 rfl (Nat.le_of_ble_eq_true rfl) ly_95 rfl rfl (by decide) (by omega) (Nat.le_of_ble_eq_true rfl) rfl (Nat.le_refl _) (Nat.le_refl _) (c_M_comesM hn hR ho hk hh hnh hl hnl hW (by omega) (hvS_lt hH hs (by omega)) hq) (m_go ?_)
        show AW _ _ _ _ _ _ _ _ [.int (dsR I ko k (s.2.1 (hvS sp (I 106) k)))] _ _ _ _
        refine a_pop dM_allCome_46 rfl ?_
        refine a_iincN (lv' := [(2, .int (nI (k + 1))), (0, .ref 95), (1, .int (nI sp))]) (j := 0) dM_allCome_47 rfl (by decide) rfl ?_
        refine a_goto (tgt := 6) dM_allCome_50 (by decide) ?_
        have e' : acN (dsR I ko) (fun l => oR I ko (19 + l)) (hvS sp (I 106)) s0 (k + 1) = ((va_up s.1 (hvS sp (I 106) k) (s.1 (hvS sp (I 106) k) + dsR I ko k (s.2.1 (hvS sp (I 106) k)))), (va_up s.2.1 (hvS sp (I 106) k) (oR I ko (19 + k))), (va_up s.2.2 (hvS sp (I 106) k) (s.2.2 (hvS sp (I 106) k) + 1))) := by
          unfold acN
          rw [es]
        exact ih (k + 1) (by omega) ((va_up s.1 (hvS sp (I 106) k) (s.1 (hvS sp (I 106) k) + dsR I ko k (s.2.1 (hvS sp (I 106) k)))), (va_up s.2.1 (hvS sp (I 106) k) (oR I ko (19 + k))), (va_up s.2.2 (hvS sp (I 106) k) (s.2.2 (hvS sp (I 106) k) + 1))) e'
abbrev acS (I : mI) (ko nl sp : Nat) (md ls cm : Nat → Int32) : g3 := acN (dsR I ko) (fun l => oR I ko (19 + l)) (hvS sp (I 106)) (bg3 I ko md ls cm) nl
theorem c_M_allCome {S : Nat × (Nat → Int32)} {d n : Nat} {I : mI} {J : mJ} {R : mR} {md ls cm : Nat → Int32} {ko nh nl : Nat} (hn : 122 ≤ n) (hR : m_fin R) (ho : I 95 23 = nI ko) (hk : ko < 7) (hh : I 95 24 = nI nh) (hnh : nh ≤ 6) (hl : I 95 25 = nI nl) (hnl : nl ≤ 10) (hW : WFk I ko) (hH : WFh (I 106) nl) {sp : Nat} (hs : sp < 60 ∨ sp = 99) : RUN S (d + 5) YM_allCome [.ref 95, .int (nI sp)] (m_row (m_row (m_row I 107 md) 108 ls) 109 cm) J R n none (m_row (m_row (m_row I 107 ((acS I ko nl sp md ls cm).1)) 108 ((acS I ko nl sp md ls cm).2.1)) 109 ((acS I ko nl sp md ls cm).2.2)) J R n := by
  show AW S _ YM_allCome n n _ 0 [(0, .ref 95), (1, .int (nI sp))] [] (m_row (m_row (m_row I 107 md) 108 ls) 109 cm) J R n
  refine a_aload_n 0 dM_allCome_0 rfl rfl ?_
  refine a_callV (Q' := m_res none (m_row (m_row (m_row I 107 ((bg3 I ko md ls cm).1)) 108 ((bg3 I ko md ls cm).2.1)) 109 ((bg3 I ko md ls cm).2.2)) J R) (as := []) (st := []) dM_allCome_1 ml12_268 rfl (Nat.le_of_ble_eq_true rfl) ly_95 rfl rfl (by decide) (by omega) (Nat.le_of_ble_eq_true rfl) rfl (Nat.le_refl _) (Nat.le_refl _) (bgM (B := I) hn hR ho hk) (m_go ?_)
  show AW _ _ _ _ _ _ _ _ [] _ _ _ _
  refine a_iconstN (a := 0) dM_allCome_4 (by decide) ?_
  refine a_istore_n (lv' := [(2, .int (nI 0)), (0, .ref 95), (1, .int (nI sp))]) dM_allCome_5 rfl (by decide) rfl ?_
  refine l_acm  hn hR ho hk hh hnh hl hnl hW hH hs (s0 := bg3 I ko md ls cm) bg3_ok ?_ nl 0 (by omega) _ rfl
  exact a_vret dM_allCome_53 rfl ⟨rfl, rfl, rfl, rfl⟩
abbrev fcR (I : mI) (kg k u : Nat) : Int32 := I 103 (17 * kg + 1 + 2 * k + u)
def fhR (I : mI) (kg k : Nat) : Nat := (fcR I kg k 0).toNatClampNeg
def WFg (I : mI) (kg c nh : Nat) : Prop := ∀ k, k < c → ∃ q, q < nh ∧ fcR I kg k 0 = nI q
theorem WFg.fh {I : mI} {kg c nh k : Nat} (h : WFg I kg c nh) (hk : k < c) (hnh : nh ≤ 6) : fcR I kg k 0 = nI (fhR I kg k) ∧ fhR I kg k < nh := by
  obtain ⟨q, hq, e⟩ := h k hk
  unfold fhR
  rw [e, nI_clamp (by omega)]
  exact ⟨rfl, hq⟩
abbrev soP (I : mI) (kg c : Nat) (md : Nat → Int32) : Prop := ∀ k, k < c → md (fhR I kg k) = fcR I kg k 1
abbrev soV (I : mI) (kg c : Nat) (md : Nat → Int32) : Int32 := if soP I kg c md then 1 else 0
theorem c_M_factsE {S : Nat × (Nat → Int32)} {d n : Nat} {I : mI} {J : mJ} {R : mR} (hn : 122 ≤ n) (hR : m_fin R) {kg c : Nat} (hkg : I 95 47 = nI kg) (hg2 : kg < 2) (hcc : I 103 (17 * kg) = nI c) : RUN S d YM_facts [.ref 95] I J R n (some (.int (nI c))) I J R n := by
  have h := c_M_facts (S := S) (d := d) (n := n) (J := J) (R := R) (I := I) hn hR hkg hg2
  rw [hcc] at h
  exact h
theorem l_isSo {S : Nat × (Nat → Int32)} {d n : Nat} {I : mI} {J : mJ} {R : mR} {ko nh nl : Nat} (hn : 122 ≤ n) (hR : m_fin R) (ho : I 95 23 = nI ko) (hk : ko < 7) (hh : I 95 24 = nI nh) (hnh : nh ≤ 6) (hl : I 95 25 = nI nl) (hnl : nl ≤ 10) (hW : WFk I ko) {kg c : Nat} (hkg : I 95 47 = nI kg) (hg2 : kg < 2) (hcc : I 103 (17 * kg) = nI c) (hc8 : c ≤ 8) (hF : WFg I kg c nh) {md ls cm : Nat → Int32}  {Q : Option Value → mI → mJ → mR → Prop} (h0 : ∀ k, k < c → ¬ (md (fhR I kg k) = fcR I kg k 1) → Q (some (.int 0)) (m_row (m_row (m_row I 107 md) 108 ls) 109 cm) J R) (hx : (∀ k, k < c → md (fhR I kg k) = fcR I kg k 1) → AW S (d + 6) YM_isSo n n Q 43 [(2, .int (nI c)), (0, .ref 95)] [] (m_row (m_row (m_row I 107 md) 108 ls) 109 cm) J R n) : ∀ m k, k + m = c → (∀ j, j < k → md (fhR I kg j) = fcR I kg j 1) → AW S (d + 6) YM_isSo n n Q 7 [(2, .int (nI k)), (0, .ref 95)] [] (m_row (m_row (m_row I 107 md) 108 ls) 109 cm) J R n := by
  intro m
  induction m with
  | zero =>
    intro k hk9 hp
    rw [show k = c by omega] at hp ⊢
    refine a_iload_n 0 dM_isSo_7 rfl rfl ?_
    refine a_aload_n 1 dM_isSo_8 rfl rfl ?_
    refine a_callV (Q' := m_res (some (.int (nI c))) (m_row (m_row (m_row I 107 md) 108 ls) 109 cm) J R) (as := []) (st := [.int (nI c)]) dM_isSo_9 ml12_438 rfl (Nat.le_of_ble_eq_true rfl) ly_95 rfl rfl (by decide) (by omega) (Nat.le_of_ble_eq_true rfl) rfl (Nat.le_refl _) (Nat.le_refl _) (c_M_factsE hn hR (show (m_row (m_row (m_row I 107 md) 108 ls) 109 cm) 95 47 = nI kg from hkg) hg2 (show (m_row (m_row (m_row I 107 md) 108 ls) 109 cm) 103 (17 * kg) = nI c from hcc)) (m_go ?_)
    show AW _ _ _ _ _ _ _ _ [.int (nI c), .int (nI c)] _ _ _ _
    refine a_icmp_geN (tgt := 43) dM_isSo_12 (by decide) (by omega) (by omega) (fun _ => ?_) (fun c => False.elim (by omega))
    exact hx hp
  | succ m ih =>
    intro k hk9 hp
    refine a_iload_n 0 dM_isSo_7 rfl rfl ?_
    refine a_aload_n 1 dM_isSo_8 rfl rfl ?_
    refine a_callV (Q' := m_res (some (.int (nI c))) (m_row (m_row (m_row I 107 md) 108 ls) 109 cm) J R) (as := []) (st := [.int (nI k)]) dM_isSo_9 ml12_438 rfl (Nat.le_of_ble_eq_true rfl) ly_95 rfl rfl (by decide) (by omega) (Nat.le_of_ble_eq_true rfl) rfl (Nat.le_refl _) (Nat.le_refl _) (c_M_factsE hn hR (show (m_row (m_row (m_row I 107 md) 108 ls) 109 cm) 95 47 = nI kg from hkg) hg2 (show (m_row (m_row (m_row I 107 md) 108 ls) 109 cm) 103 (17 * kg) = nI c from hcc)) (m_go ?_)
    show AW _ _ _ _ _ _ _ _ [.int (nI c), .int (nI k)] _ _ _ _
    refine a_icmp_geN (tgt := 43) dM_isSo_12 (by decide) (by omega) (by omega) (fun c => False.elim (by omega)) (fun _ => ?_)
    refine a_aload_n 1 dM_isSo_15 rfl rfl ?_
    refine a_geta (r := 107) dM_isSo_16 fl12_44 rfl ly_95 (by omega) (rf_95_27 hR) ?_
    refine a_aload_n 1 dM_isSo_19 rfl rfl ?_
    refine a_iload_n 0 dM_isSo_20 rfl rfl ?_
    refine a_iconstN (a := 0) dM_isSo_21 (by decide) ?_
    refine a_callV (Q' := m_res (some (.int (fcR I kg k 0))) (m_row (m_row (m_row I 107 md) 108 ls) 109 cm) J R) (as := [.int (nI k), .int (nI 0)]) (st := [.ref 107]) dM_isSo_22 ml12_441 rfl (Nat.le_of_ble_eq_true rfl) ly_95 rfl rfl (by decide) (by omega) (Nat.le_of_ble_eq_true rfl) rfl (Nat.le_refl _) (Nat.le_refl _) (c_M_factOf hn hR (show (m_row (m_row (m_row I 107 md) 108 ls) 109 cm) 95 47 = nI kg from hkg) hg2 (by omega) (by omega)) (m_go ?_)
    show AW _ _ _ _ _ _ _ _ [.int (fcR I kg k 0), .ref 107] _ _ _ _
    rw [show (fcR I kg k 0) = (nI (fhR I kg k)) from (hF.fh (by omega) hnh).1]
    refine a_ialdN (a := (fhR I kg k)) dM_isSo_25 ly_107 (by omega) (by have := (hF.fh (k := k) (by omega) hnh).2; omega) (by decide) ?_
    rw [show (m_row (m_row (m_row I 107 md) 108 ls) 109 cm) 107 (fhR I kg k) = md (fhR I kg k) from rfl]
    refine a_aload_n 1 dM_isSo_26 rfl rfl ?_
    refine a_iload_n 0 dM_isSo_27 rfl rfl ?_
    refine a_iconstN (a := 1) dM_isSo_28 (by decide) ?_
    refine a_callV (Q' := m_res (some (.int (fcR I kg k 1))) (m_row (m_row (m_row I 107 md) 108 ls) 109 cm) J R) (as := [.int (nI k), .int (nI 1)]) (st := [.int (md (fhR I kg k))]) dM_isSo_29 ml12_441 rfl (Nat.le_of_ble_eq_true rfl) ly_95 rfl rfl (by decide) (by omega) (Nat.le_of_ble_eq_true rfl) rfl (Nat.le_refl _) (Nat.le_refl _) (c_M_factOf hn hR (show (m_row (m_row (m_row I 107 md) 108 ls) 109 cm) 95 47 = nI kg from hkg) hg2 (by omega) (by omega)) (m_go ?_)
    show AW _ _ _ _ _ _ _ _ [.int (fcR I kg k 1), .int (md (fhR I kg k))] _ _ _ _
    refine a_icmp_eq (tgt := 37) dM_isSo_32 (by decide) (fun c32 => ?_) (fun c32 => ?_)
    · refine a_iincN (lv' := [(2, .int (nI (k + 1))), (0, .ref 95)]) (j := 0) dM_isSo_37 rfl (by decide) rfl ?_
      refine a_goto (tgt := 7) dM_isSo_40 (by decide) ?_
      exact ih (k + 1) (by omega) (fun j hj => by
        rcases Nat.lt_or_eq_of_le (Nat.le_of_lt_succ hj) with h1 | h1
        · exact hp j h1
        · subst h1; exact c32)
    · refine a_iconstN (a := 0) dM_isSo_35 (by decide) ?_
      exact a_zret dM_isSo_36 rfl (by rfl) (h0 k (by omega) (fun q => absurd q c32))
theorem c_M_isSo {S : Nat × (Nat → Int32)} {d n : Nat} {I : mI} {J : mJ} {R : mR} {md ls cm : Nat → Int32} {ko nh nl : Nat} (hn : 122 ≤ n) (hR : m_fin R) (ho : I 95 23 = nI ko) (hk : ko < 7) (hh : I 95 24 = nI nh) (hnh : nh ≤ 6) (hl : I 95 25 = nI nl) (hnl : nl ≤ 10) (hW : WFk I ko) (hH : WFh (I 106) nl) {sp : Nat} (hs : sp < 60 ∨ sp = 99) {kg c : Nat} (hkg : I 95 47 = nI kg) (hg2 : kg < 2) (hcc : I 103 (17 * kg) = nI c) (hc8 : c ≤ 8) (hF : WFg I kg c nh) : RUN S (d + 6) YM_isSo [.ref 95, .int (nI sp)] (m_row (m_row (m_row I 107 md) 108 ls) 109 cm) J R n (some (.int (soV I kg c (acS I ko nl sp md ls cm).1))) (m_row (m_row (m_row I 107 ((acS I ko nl sp md ls cm).1)) 108 ((acS I ko nl sp md ls cm).2.1)) 109 ((acS I ko nl sp md ls cm).2.2)) J R n := by
  show AW S _ YM_isSo n n _ 0 [(0, .ref 95), (1, .int (nI sp))] [] (m_row (m_row (m_row I 107 md) 108 ls) 109 cm) J R n
  refine a_aload_n 0 dM_isSo_0 rfl rfl ?_
  refine a_iload_n 1 dM_isSo_1 rfl rfl ?_
  refine a_callV (Q' := m_res none (m_row (m_row (m_row I 107 ((acS I ko nl sp md ls cm).1)) 108 ((acS I ko nl sp md ls cm).2.1)) 109 ((acS I ko nl sp md ls cm).2.2)) J R) (as := [.int (nI sp)]) (st := []) dM_isSo_2 ml12_444 rfl (Nat.le_of_ble_eq_true rfl) ly_95 rfl rfl (by decide) (by omega) (Nat.le_of_ble_eq_true rfl) rfl (Nat.le_refl _) (Nat.le_refl _) (c_M_allCome hn hR ho hk hh hnh hl hnl hW hH hs) (m_go ?_)
  show AW _ _ _ _ _ _ _ _ [] _ _ _ _
  refine a_iconstN (a := 0) dM_isSo_5 (by decide) ?_
  refine a_istore_n (lv' := [(2, .int (nI 0)), (0, .ref 95), (1, .int (nI sp))]) dM_isSo_6 rfl (by decide) rfl ?_
  refine a_locs (lv' := [(2, .int (nI 0)), (0, .ref 95)]) [0, 1] rfl ?_
  refine l_isSo hn hR ho hk hh hnh hl hnl hW hkg hg2 hcc hc8 hF (fun k hk2 hp => ?_) (fun hp => ?_) c 0 (by omega) (fun j hj => absurd hj (Nat.not_lt_zero _))
  · exact ⟨by unfold soV; rw [if_neg (fun q => hp (q k hk2))], rfl, rfl, rfl⟩
  · refine a_iconstN (a := 1) dM_isSo_43 (by decide) ?_
    exact a_zret dM_isSo_44 rfl (by rfl) ⟨by unfold soV; rw [if_pos hp]; rfl, rfl, rfl, rfl⟩
