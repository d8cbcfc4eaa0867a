/-- where a letter comes: a slip, or home -/
def hvS (sp : Nat) (f : Nat → Int32) (l : Nat) : Nat := if sp < 99 ∧ sp % 10 = l then sp / 10 else hmN f l
theorem hvS_lt {sp nl l : Nat} {f : Nat → Int32} (hH : WFh f nl) (hs : sp < 60 ∨ sp = 99) (hl : l < nl) : hvS sp f l < 6 := by
  unfold hvS
  split
  · omega
  · exact (hH.hm hl).2
theorem l_acm {S : Nat × (Nat → Int32)} {d n : Nat} {I : mI} {J : mJ} {R : mR} {ko nh nl : Nat} (hn : 122 ≤ n) (hR : m_fin R) (ho : I 95 23 = nI ko) (hk : ko < 7) (hh : I 95 24 = nI nh) (hnh : nh ≤ 6) (hl : I 95 25 = nI nl) (hnl : nl ≤ 10) (hW : WFk I ko) (hH : WFh (I 106) nl) {sp : Nat} (hs : sp < 60 ∨ sp = 99) {s0 : g3}   {Q : Option Value → mI → mJ → mR → Prop} (hI : ∀ h, h < 6 → kOK (s0.2.1 h)) (hx : AW S (d + 5) YM_allCome n n Q 53 [(2, .int (nI nl)), (0, .ref 95), (1, .int (nI sp))] [] (m_row (m_row (m_row I 107 ((acN (dsR I ko) (fun l => oR I ko (19 + l)) (hvS sp (I 106)) s0 nl).1)) 108 ((acN (dsR I ko) (fun l => oR I ko (19 + l)) (hvS sp (I 106)) s0 nl).2.1)) 109 ((acN (dsR I ko) (fun l => oR I ko (19 + l)) (hvS sp (I 106)) s0 nl).2.2)) J R n) : ∀ m k, k + m = nl → ∀ s : (Nat → Int32) × (Nat → Int32) × (Nat → Int32), acN (dsR I ko) (fun l => oR I ko (19 + l)) (hvS sp (I 106)) s0 k = s → AW S (d + 5) YM_allCome n n Q 6 [(2, .int (nI k)), (0, .ref 95), (1, .int (nI sp))] [] (m_row (m_row (m_row I 107 s.1) 108 s.2.1) 109 s.2.2) J R n := by
  intro m
  induction m with
  | zero =>
    intro k hk9 s es
    rw [show k = nl by omega] at es ⊢
    subst es
    refine a_iload_n 0 dM_allCome_6 rfl rfl ?_
    refine a_aload_n 1 dM_allCome_7 rfl rfl ?_
    refine a_geti dM_allCome_8 fl12_262 rfl ly_95 (by omega) ?_
    rw [show (m_row (m_row (m_row I 107 ((acN (dsR I ko) (fun l => oR I ko (19 + l)) (hvS sp (I 106)) s0 nl).1)) 108 ((acN (dsR I ko) (fun l => oR I ko (19 + l)) (hvS sp (I 106)) s0 nl).2.1)) 109 ((acN (dsR I ko) (fun l => oR I ko (19 + l)) (hvS sp (I 106)) s0 nl).2.2)) 95 25 = (nI nl) from hl]
    refine a_icmp_geN (tgt := 53) dM_allCome_11 (by decide) (by omega) (by omega) (fun _ => ?_) (fun c => False.elim (by omega))
    exact hx
  | succ m ih =>
    intro k hk9 s es
    have hq := acN_ok (ds := dsR I ko) (kd := fun l => oR I ko (19 + l)) (hv := hvS sp (I 106)) (s0 := s0) hI k (fun l hl => hW.ok (by omega)) (hvS sp (I 106) k) (hvS_lt hH hs (by omega))
    rw [es] at hq
    refine a_iload_n 0 dM_allCome_6 rfl rfl ?_
    refine a_aload_n 1 dM_allCome_7 rfl rfl ?_
    refine a_geti dM_allCome_8 fl12_262 rfl ly_95 (by omega) ?_
    rw [show (m_row (m_row (m_row I 107 s.1) 108 s.2.1) 109 s.2.2) 95 25 = (nI nl) from hl]
    refine a_icmp_geN (tgt := 53) dM_allCome_11 (by decide) (by omega) (by omega) (fun c => False.elim (by omega)) (fun _ => ?_)
    refine a_aload_n 1 dM_allCome_14 rfl rfl ?_
    refine a_iload_n 0 dM_allCome_15 rfl rfl ?_
    refine a_iload_n 2 dM_allCome_16 rfl rfl ?_
    refine a_bipushN (a := 99) dM_allCome_17 (by decide) ?_
    refine a_icmp_geN (tgt := 37) dM_allCome_19 (by decide) (by omega) (by omega) (fun c19 => ?_) (fun c19 => ?_)
    · refine a_aload_n 1 dM_allCome_37 rfl rfl ?_
      refine a_geta (r := 106) dM_allCome_38 fl12_41 rfl ly_95 (by omega) (rf_95_26 hR) ?_
      refine a_iload_n 0 dM_allCome_41 rfl rfl ?_
      refine a_ialdN (a := k) dM_allCome_42 ly_106 (by omega) (by omega) (by decide) ?_
      rw [show (m_row (m_row (m_row I 107 s.1) 108 s.2.1) 109 s.2.2) 106 k = I 106 k from rfl]
      rw [show (I 106 k) = (nI (hvS sp (I 106) k)) from (by unfold hvS; rw [if_neg (by omega)]; exact (hH.hm (by omega)).1)]
      refine a_callV (Q' := m_res (some (.int (dsR I ko k (s.2.1 (hvS sp (I 106) k))))) (m_row (m_row (m_row I 107 (va_up s.1 (hvS sp (I 106) k) (s.1 (hvS sp (I 106) k) + dsR I ko k (s.2.1 (hvS sp (I 106) k))))) 108 (va_up s.2.1 (hvS sp (I 106) k) (oR I ko (19 + k)))) 109 (va_up s.2.2 (hvS sp (I 106) k) (s.2.2 (hvS sp (I 106) k) + 1))) J R) (as := [.int (nI k), .int (nI (hvS sp (I 106) k))]) (st := []) dM_allCome_43 ml12_316 rfl (Nat.le_of_ble_eq_true rfl) ly_95 rfl rfl (by decide) (by omega) (Nat.le_of_ble_eq_true rfl) rfl (Nat.le_refl _) (Nat.le_refl _) (c_M_comesM hn hR ho hk hh hnh hl hnl hW (by omega) (hvS_lt hH hs (by omega)) hq) (m_go ?_)
      show AW _ _ _ _ _ _ _ _ [.int (dsR I ko k (s.2.1 (hvS sp (I 106) k)))] _ _ _ _
      refine a_pop dM_allCome_46 rfl ?_
      refine a_iincN (lv' := [(2, .int (nI (k + 1))), (0, .ref 95), (1, .int (nI sp))]) (j := 0) dM_allCome_47 rfl (by decide) rfl ?_
      refine a_goto (tgt := 6) dM_allCome_50 (by decide) ?_
      have e' : acN (dsR I ko) (fun l => oR I ko (19 + l)) (hvS sp (I 106)) s0 (k + 1) = ((va_up s.1 (hvS sp (I 106) k) (s.1 (hvS sp (I 106) k) + dsR I ko k (s.2.1 (hvS sp (I 106) k)))), (va_up s.2.1 (hvS sp (I 106) k) (oR I ko (19 + k))), (va_up s.2.2 (hvS sp (I 106) k) (s.2.2 (hvS sp (I 106) k) + 1))) := by
        unfold acN
        rw [es]
      exact ih (k + 1) (by omega) ((va_up s.1 (hvS sp (I 106) k) (s.1 (hvS sp (I 106) k) + dsR I ko k (s.2.1 (hvS sp (I 106) k)))), (va_up s.2.1 (hvS sp (I 106) k) (oR I ko (19 + k))), (va_up s.2.2 (hvS sp (I 106) k) (s.2.2 (hvS sp (I 106) k) + 1))) e'
    · refine a_iload_n 2 dM_allCome_22 rfl rfl ?_
      refine a_bipushN (a := 10) dM_allCome_23 (by decide) ?_
      refine a_iremN dM_allCome_25 (by omega) (by omega) (by omega) ?_
      refine a_iload_n 0 dM_allCome_26 rfl rfl ?_
      refine a_icmp_neN (tgt := 37) dM_allCome_27 (by decide) (by omega) (by omega) (fun c27 => ?_) (fun c27 => ?_)
      · refine a_aload_n 1 dM_allCome_37 rfl rfl ?_
        refine a_geta (r := 106) dM_allCome_38 fl12_41 rfl ly_95 (by omega) (rf_95_26 hR) ?_
        refine a_iload_n 0 dM_allCome_41 rfl rfl ?_
        refine a_ialdN (a := k) dM_allCome_42 ly_106 (by omega) (by omega) (by decide) ?_
        rw [show (m_row (m_row (m_row I 107 s.1) 108 s.2.1) 109 s.2.2) 106 k = I 106 k from rfl]
        rw [show (I 106 k) = (nI (hvS sp (I 106) k)) from (by unfold hvS; rw [if_neg (by omega)]; exact (hH.hm (by omega)).1)]
        refine a_callV (Q' := m_res (some (.int (dsR I ko k (s.2.1 (hvS sp (I 106) k))))) (m_row (m_row (m_row I 107 (va_up s.1 (hvS sp (I 106) k) (s.1 (hvS sp (I 106) k) + dsR I ko k (s.2.1 (hvS sp (I 106) k))))) 108 (va_up s.2.1 (hvS sp (I 106) k) (oR I ko (19 + k)))) 109 (va_up s.2.2 (hvS sp (I 106) k) (s.2.2 (hvS sp (I 106) k) + 1))) J R) (as := [.int (nI k), .int (nI (hvS sp (I 106) k))]) (st := []) dM_allCome_43 ml12_316 rfl (Nat.le_of_ble_eq_true rfl) ly_95 rfl rfl (by decide) (by omega) (Nat.le_of_ble_eq_true rfl) rfl (Nat.le_refl _) (Nat.le_refl _) (c_M_comesM hn hR ho hk hh hnh hl hnl hW (by omega) (hvS_lt hH hs (by omega)) hq) (m_go ?_)
        show AW _ _ _ _ _ _ _ _ [.int (dsR I ko k (s.2.1 (hvS sp (I 106) k)))] _ _ _ _
        refine a_pop dM_allCome_46 rfl ?_
        refine a_iincN (lv' := [(2, .int (nI (k + 1))), (0, .ref 95), (1, .int (nI sp))]) (j := 0) dM_allCome_47 rfl (by decide) rfl ?_
        refine a_goto (tgt := 6) dM_allCome_50 (by decide) ?_
        have e' : acN (dsR I ko) (fun l => oR I ko (19 + l)) (hvS sp (I 106)) s0 (k + 1) = ((va_up s.1 (hvS sp (I 106) k) (s.1 (hvS sp (I 106) k) + dsR I ko k (s.2.1 (hvS sp (I 106) k)))), (va_up s.2.1 (hvS sp (I 106) k) (oR I ko (19 + k))), (va_up s.2.2 (hvS sp (I 106) k) (s.2.2 (hvS sp (I 106) k) + 1))) := by
          unfold acN
          rw [es]
        exact ih (k + 1) (by omega) ((va_up s.1 (hvS sp (I 106) k) (s.1 (hvS sp (I 106) k) + dsR I ko k (s.2.1 (hvS sp (I 106) k)))), (va_up s.2.1 (hvS sp (I 106) k) (oR I ko (19 + k))), (va_up s.2.2 (hvS sp (I 106) k) (s.2.2 (hvS sp (I 106) k) + 1))) e'
      · refine a_iload_n 2 dM_allCome_30 rfl rfl ?_
        refine a_bipushN (a := 10) dM_allCome_31 (by decide) ?_
        refine a_idivN dM_allCome_33 (by omega) (by omega) (by omega) ?_
        rw [show (nI (sp / 10)) = (nI (hvS sp (I 106) k)) from (by unfold hvS; rw [if_pos ⟨by omega, by omega⟩])]
        refine a_goto (tgt := 43) dM_allCome_34 (by decide) ?_
        refine a_callV (Q' := m_res (some (.int (dsR I ko k (s.2.1 (hvS sp (I 106) k))))) (m_row (m_row (m_row I 107 (va_up s.1 (hvS sp (I 106) k) (s.1 (hvS sp (I 106) k) + dsR I ko k (s.2.1 (hvS sp (I 106) k))))) 108 (va_up s.2.1 (hvS sp (I 106) k) (oR I ko (19 + k)))) 109 (va_up s.2.2 (hvS sp (I 106) k) (s.2.2 (hvS sp (I 106) k) + 1))) J R) (as := [.int (nI k), .int (nI (hvS sp (I 106) k))]) (st := []) dM_allCome_43 ml12_316 rfl (Nat.le_of_ble_eq_true rfl) ly_95 rfl rfl (by decide) (by omega) (Nat.le_of_ble_eq_true rfl) rfl (Nat.le_refl _) (Nat.le_refl _) (c_M_comesM hn hR ho hk hh hnh hl hnl hW (by omega) (hvS_lt hH hs (by omega)) hq) (m_go ?_)
        show AW _ _ _ _ _ _ _ _ [.int (dsR I ko k (s.2.1 (hvS sp (I 106) k)))] _ _ _ _
        refine a_pop dM_allCome_46 rfl ?_
        refine a_iincN (lv' := [(2, .int (nI (k + 1))), (0, .ref 95), (1, .int (nI sp))]) (j := 0) dM_allCome_47 rfl (by decide) rfl ?_
        refine a_goto (tgt := 6) dM_allCome_50 (by decide) ?_
        have e' : acN (dsR I ko) (fun l => oR I ko (19 + l)) (hvS sp (I 106)) s0 (k + 1) = ((va_up s.1 (hvS sp (I 106) k) (s.1 (hvS sp (I 106) k) + dsR I ko k (s.2.1 (hvS sp (I 106) k)))), (va_up s.2.1 (hvS sp (I 106) k) (oR I ko (19 + k))), (va_up s.2.2 (hvS sp (I 106) k) (s.2.2 (hvS sp (I 106) k) + 1))) := by
          unfold acN
          rw [es]
        exact ih (k + 1) (by omega) ((va_up s.1 (hvS sp (I 106) k) (s.1 (hvS sp (I 106) k) + dsR I ko k (s.2.1 (hvS sp (I 106) k)))), (va_up s.2.1 (hvS sp (I 106) k) (oR I ko (19 + k))), (va_up s.2.2 (hvS sp (I 106) k) (s.2.2 (hvS sp (I 106) k) + 1))) e'
abbrev acS (I : mI) (ko nl sp : Nat) (md ls cm : Nat → Int32) : g3 := acN (dsR I ko) (fun l => oR I ko (19 + l)) (hvS sp (I 106)) (bg3 I ko md ls cm) nl
theorem c_M_allCome {S : Nat × (Nat → Int32)} {d n : Nat} {I : mI} {J : mJ} {R : mR} {md ls cm : Nat → Int32} {ko nh nl : Nat} (hn : 122 ≤ n) (hR : m_fin R) (ho : I 95 23 = nI ko) (hk : ko < 7) (hh : I 95 24 = nI nh) (hnh : nh ≤ 6) (hl : I 95 25 = nI nl) (hnl : nl ≤ 10) (hW : WFk I ko) (hH : WFh (I 106) nl) {sp : Nat} (hs : sp < 60 ∨ sp = 99) : RUN S (d + 5) YM_allCome [.ref 95, .int (nI sp)] (m_row (m_row (m_row I 107 md) 108 ls) 109 cm) J R n none (m_row (m_row (m_row I 107 ((acS I ko nl sp md ls cm).1)) 108 ((acS I ko nl sp md ls cm).2.1)) 109 ((acS I ko nl sp md ls cm).2.2)) J R n := by
  show AW S _ YM_allCome n n _ 0 [(0, .ref 95), (1, .int (nI sp))] [] (m_row (m_row (m_row I 107 md) 108 ls) 109 cm) J R n
  refine a_aload_n 0 dM_allCome_0 rfl rfl ?_
  refine a_callV (Q' := m_res none (m_row (m_row (m_row I 107 ((bg3 I ko md ls cm).1)) 108 ((bg3 I ko md ls cm).2.1)) 109 ((bg3 I ko md ls cm).2.2)) J R) (as := []) (st := []) dM_allCome_1 ml12_268 rfl (Nat.le_of_ble_eq_true rfl) ly_95 rfl rfl (by decide) (by omega) (Nat.le_of_ble_eq_true rfl) rfl (Nat.le_refl _) (Nat.le_refl _) (bgM (B := I) hn hR ho hk) (m_go ?_)
  show AW _ _ _ _ _ _ _ _ [] _ _ _ _
  refine a_iconstN (a := 0) dM_allCome_4 (by decide) ?_
  refine a_istore_n (lv' := [(2, .int (nI 0)), (0, .ref 95), (1, .int (nI sp))]) dM_allCome_5 rfl (by decide) rfl ?_
  refine l_acm  hn hR ho hk hh hnh hl hnl hW hH hs (s0 := bg3 I ko md ls cm) bg3_ok ?_ nl 0 (by omega) _ rfl
  exact a_vret dM_allCome_53 rfl ⟨rfl, rfl, rfl, rfl⟩
abbrev fcR (I : mI) (kg k u : Nat) : Int32 := I 103 (17 * kg + 1 + 2 * k + u)
def fhR (I : mI) (kg k : Nat) : Nat := (fcR I kg k 0).toNatClampNeg
def WFg (I : mI) (kg c nh : Nat) : Prop := ∀ k, k < c → ∃ q, q < nh ∧ fcR I kg k 0 = nI q
theorem WFg.fh {I : mI} {kg c nh k : Nat} (h : WFg I kg c nh) (hk : k < c) (hnh : nh ≤ 6) : fcR I kg k 0 = nI (fhR I kg k) ∧ fhR I kg k < nh := by
  obtain ⟨q, hq, e⟩ := h k hk
  unfold fhR
  rw [e, nI_clamp (by omega)]
  exact ⟨rfl, hq⟩
abbrev soP (I : mI) (kg c : Nat) (md : Nat → Int32) : Prop := ∀ k, k < c → md (fhR I kg k) = fcR I kg k 1
abbrev soV (I : mI) (kg c : Nat) (md : Nat → Int32) : Int32 := if soP I kg c md then 1 else 0
theorem c_M_factsE {S : Nat × (Nat → Int32)} {d n : Nat} {I : mI} {J : mJ} {R : mR} (hn : 122 ≤ n) (hR : m_fin R) {kg c : Nat} (hkg : I 95 47 = nI kg) (hg2 : kg < 2) (hcc : I 103 (17 * kg) = nI c) : RUN S d YM_facts [.ref 95] I J R n (some (.int (nI c))) I J R n := by
  have h := c_M_facts (S := S) (d := d) (n := n) (J := J) (R := R) (I := I) hn hR hkg hg2
  rw [hcc] at h
  exact h
theorem l_isSo {S : Nat × (Nat → Int32)} {d n : Nat} {I : mI} {J : mJ} {R : mR} {ko nh nl : Nat} (hn : 122 ≤ n) (hR : m_fin R) (ho : I 95 23 = nI ko) (hk : ko < 7) (hh : I 95 24 = nI nh) (hnh : nh ≤ 6) (hl : I 95 25 = nI nl) (hnl : nl ≤ 10) (hW : WFk I ko) {kg c : Nat} (hkg : I 95 47 = nI kg) (hg2 : kg < 2) (hcc : I 103 (17 * kg) = nI c) (hc8 : c ≤ 8) (hF : WFg I kg c nh) {md ls cm : Nat → Int32}  {Q : Option Value → mI → mJ → mR → Prop} (h0 : ∀ k, k < c → ¬ (md (fhR I kg k) = fcR I kg k 1) → Q (some (.int 0)) (m_row (m_row (m_row I 107 md) 108 ls) 109 cm) J R) (hx : (∀ k, k < c → md (fhR I kg k) = fcR I kg k 1) → AW S (d + 6) YM_isSo n n Q 43 [(2, .int (nI c)), (0, .ref 95)] [] (m_row (m_row (m_row I 107 md) 108 ls) 109 cm) J R n) : ∀ m k, k + m = c → (∀ j, j < k → md (fhR I kg j) = fcR I kg j 1) → AW S (d + 6) YM_isSo n n Q 7 [(2, .int (nI k)), (0, .ref 95)] [] (m_row (m_row (m_row I 107 md) 108 ls) 109 cm) J R n := by
  intro m
  induction m with
  | zero =>
    intro k hk9 hp
    rw [show k = c by omega] at hp ⊢
    refine a_iload_n 0 dM_isSo_7 rfl rfl ?_
    refine a_aload_n 1 dM_isSo_8 rfl rfl ?_
    refine a_callV (Q' := m_res (some (.int (nI c))) (m_row (m_row (m_row I 107 md) 108 ls) 109 cm) J R) (as := []) (st := [.int (nI c)]) dM_isSo_9 ml12_438 rfl (Nat.le_of_ble_eq_true rfl) ly_95 rfl rfl (by decide) (by omega) (Nat.le_of_ble_eq_true rfl) rfl (Nat.le_refl _) (Nat.le_refl _) (c_M_factsE hn hR (show (m_row (m_row (m_row I 107 md) 108 ls) 109 cm) 95 47 = nI kg from hkg) hg2 (show (m_row (m_row (m_row I 107 md) 108 ls) 109 cm) 103 (17 * kg) = nI c from hcc)) (m_go ?_)
    show AW _ _ _ _ _ _ _ _ [.int (nI c), .int (nI c)] _ _ _ _
    refine a_icmp_geN (tgt := 43) dM_isSo_12 (by decide) (by omega) (by omega) (fun _ => ?_) (fun c => False.elim (by omega))
    exact hx hp
  | succ m ih =>
    intro k hk9 hp
    refine a_iload_n 0 dM_isSo_7 rfl rfl ?_
    refine a_aload_n 1 dM_isSo_8 rfl rfl ?_
    refine a_callV (Q' := m_res (some (.int (nI c))) (m_row (m_row (m_row I 107 md) 108 ls) 109 cm) J R) (as := []) (st := [.int (nI k)]) dM_isSo_9 ml12_438 rfl (Nat.le_of_ble_eq_true rfl) ly_95 rfl rfl (by decide) (by omega) (Nat.le_of_ble_eq_true rfl) rfl (Nat.le_refl _) (Nat.le_refl _) (c_M_factsE hn hR (show (m_row (m_row (m_row I 107 md) 108 ls) 109 cm) 95 47 = nI kg from hkg) hg2 (show (m_row (m_row (m_row I 107 md) 108 ls) 109 cm) 103 (17 * kg) = nI c from hcc)) (m_go ?_)
    show AW _ _ _ _ _ _ _ _ [.int (nI c), .int (nI k)] _ _ _ _
    refine a_icmp_geN (tgt := 43) dM_isSo_12 (by decide) (by omega) (by omega) (fun c => False.elim (by omega)) (fun _ => ?_)
    refine a_aload_n 1 dM_isSo_15 rfl rfl ?_
    refine a_geta (r := 107) dM_isSo_16 fl12_44 rfl ly_95 (by omega) (rf_95_27 hR) ?_
    refine a_aload_n 1 dM_isSo_19 rfl rfl ?_
    refine a_iload_n 0 dM_isSo_20 rfl rfl ?_
    refine a_iconstN (a := 0) dM_isSo_21 (by decide) ?_
    refine a_callV (Q' := m_res (some (.int (fcR I kg k 0))) (m_row (m_row (m_row I 107 md) 108 ls) 109 cm) J R) (as := [.int (nI k), .int (nI 0)]) (st := [.ref 107]) dM_isSo_22 ml12_441 rfl (Nat.le_of_ble_eq_true rfl) ly_95 rfl rfl (by decide) (by omega) (Nat.le_of_ble_eq_true rfl) rfl (Nat.le_refl _) (Nat.le_refl _) (c_M_factOf hn hR (show (m_row (m_row (m_row I 107 md) 108 ls) 109 cm) 95 47 = nI kg from hkg) hg2 (by omega) (by omega)) (m_go ?_)
    show AW _ _ _ _ _ _ _ _ [.int (fcR I kg k 0), .ref 107] _ _ _ _
    rw [show (fcR I kg k 0) = (nI (fhR I kg k)) from (hF.fh (by omega) hnh).1]
    refine a_ialdN (a := (fhR I kg k)) dM_isSo_25 ly_107 (by omega) (by have := (hF.fh (k := k) (by omega) hnh).2; omega) (by decide) ?_
    rw [show (m_row (m_row (m_row I 107 md) 108 ls) 109 cm) 107 (fhR I kg k) = md (fhR I kg k) from rfl]
    refine a_aload_n 1 dM_isSo_26 rfl rfl ?_
    refine a_iload_n 0 dM_isSo_27 rfl rfl ?_
    refine a_iconstN (a := 1) dM_isSo_28 (by decide) ?_
    refine a_callV (Q' := m_res (some (.int (fcR I kg k 1))) (m_row (m_row (m_row I 107 md) 108 ls) 109 cm) J R) (as := [.int (nI k), .int (nI 1)]) (st := [.int (md (fhR I kg k))]) dM_isSo_29 ml12_441 rfl (Nat.le_of_ble_eq_true rfl) ly_95 rfl rfl (by decide) (by omega) (Nat.le_of_ble_eq_true rfl) rfl (Nat.le_refl _) (Nat.le_refl _) (c_M_factOf hn hR (show (m_row (m_row (m_row I 107 md) 108 ls) 109 cm) 95 47 = nI kg from hkg) hg2 (by omega) (by omega)) (m_go ?_)
    show AW _ _ _ _ _ _ _ _ [.int (fcR I kg k 1), .int (md (fhR I kg k))] _ _ _ _
    refine a_icmp_eq (tgt := 37) dM_isSo_32 (by decide) (fun c32 => ?_) (fun c32 => ?_)
    · refine a_iincN (lv' := [(2, .int (nI (k + 1))), (0, .ref 95)]) (j := 0) dM_isSo_37 rfl (by decide) rfl ?_
      refine a_goto (tgt := 7) dM_isSo_40 (by decide) ?_
      exact ih (k + 1) (by omega) (fun j hj => by
        rcases Nat.lt_or_eq_of_le (Nat.le_of_lt_succ hj) with h1 | h1
        · exact hp j h1
        · subst h1; exact c32)
    · refine a_iconstN (a := 0) dM_isSo_35 (by decide) ?_
      exact a_zret dM_isSo_36 rfl (by rfl) (h0 k (by omega) (fun q => absurd q c32))
theorem c_M_isSo {S : Nat × (Nat → Int32)} {d n : Nat} {I : mI} {J : mJ} {R : mR} {md ls cm : Nat → Int32} {ko nh nl : Nat} (hn : 122 ≤ n) (hR : m_fin R) (ho : I 95 23 = nI ko) (hk : ko < 7) (hh : I 95 24 = nI nh) (hnh : nh ≤ 6) (hl : I 95 25 = nI nl) (hnl : nl ≤ 10) (hW : WFk I ko) (hH : WFh (I 106) nl) {sp : Nat} (hs : sp < 60 ∨ sp = 99) {kg c : Nat} (hkg : I 95 47 = nI kg) (hg2 : kg < 2) (hcc : I 103 (17 * kg) = nI c) (hc8 : c ≤ 8) (hF : WFg I kg c nh) : RUN S (d + 6) YM_isSo [.ref 95, .int (nI sp)] (m_row (m_row (m_row I 107 md) 108 ls) 109 cm) J R n (some (.int (soV I kg c (acS I ko nl sp md ls cm).1))) (m_row (m_row (m_row I 107 ((acS I ko nl sp md ls cm).1)) 108 ((acS I ko nl sp md ls cm).2.1)) 109 ((acS I ko nl sp md ls cm).2.2)) J R n := by
  show AW S _ YM_isSo n n _ 0 [(0, .ref 95), (1, .int (nI sp))] [] (m_row (m_row (m_row I 107 md) 108 ls) 109 cm) J R n
  refine a_aload_n 0 dM_isSo_0 rfl rfl ?_
  refine a_iload_n 1 dM_isSo_1 rfl rfl ?_
  refine a_callV (Q' := m_res none (m_row (m_row (m_row I 107 ((acS I ko nl sp md ls cm).1)) 108 ((acS I ko nl sp md ls cm).2.1)) 109 ((acS I ko nl sp md ls cm).2.2)) J R) (as := [.int (nI sp)]) (st := []) dM_isSo_2 ml12_444 rfl (Nat.le_of_ble_eq_true rfl) ly_95 rfl rfl (by decide) (by omega) (Nat.le_of_ble_eq_true rfl) rfl (Nat.le_refl _) (Nat.le_refl _) (c_M_allCome hn hR ho hk hh hnh hl hnl hW hH hs) (m_go ?_)
  show AW _ _ _ _ _ _ _ _ [] _ _ _ _
  refine a_iconstN (a := 0) dM_isSo_5 (by decide) ?_
  refine a_istore_n (lv' := [(2, .int (nI 0)), (0, .ref 95), (1, .int (nI sp))]) dM_isSo_6 rfl (by decide) rfl ?_
  refine a_locs (lv' := [(2, .int (nI 0)), (0, .ref 95)]) [0, 1] rfl ?_
  refine l_isSo hn hR ho hk hh hnh hl hnl hW hkg hg2 hcc hc8 hF (fun k hk2 hp => ?_) (fun hp => ?_) c 0 (by omega) (fun j hj => absurd hj (Nat.not_lt_zero _))
  · exact ⟨by unfold soV; rw [if_neg (fun q => hp (q k hk2))], rfl, rfl, rfl⟩
  · refine a_iconstN (a := 1) dM_isSo_43 (by decide) ?_
    exact a_zret dM_isSo_44 rfl (by rfl) ⟨by unfold soV; rw [if_pos hp]; rfl, rfl, rfl, rfl⟩
theorem l_lay1 {S : Nat × (Nat → Int32)} {d n : Nat} {I : mI} {J : mJ} {R : mR} {ko nh nl : Nat} (hn : 122 ≤ n) (hR : m_fin R) (ho : I 95 23 = nI ko) (hk : ko < 7) (hh : I 95 24 = nI nh) (hnh : nh ≤ 6) (hl : I 95 25 = nI nl) (hnl : nl ≤ 10) (hW : WFk I ko) {kg c : Nat} (hkg : I 95 47 = nI kg) (hg2 : kg < 2) (hcc : I 103 (17 * kg) = nI c) (hc8 : c ≤ 8)  {Q : Option Value → mI → mJ → mR → Prop} (h0 : ∀ k, k < c → ¬ (¬ f_in (fcR I kg k 0) 0 (nI nh - 1) = 0) → Q (some (.int 0)) I J R) (hx : (∀ k, k < c → ¬ f_in (fcR I kg k 0) 0 (nI nh - 1) = 0) → AW S (d + 7) YM_layLog n n Q 49 [(3, .int (nI c)), (0, .ref 95)] [] I J R n) : ∀ m k, k + m = c → (∀ j, j < k → ¬ f_in (fcR I kg j 0) 0 (nI nh - 1) = 0) → AW S (d + 7) YM_layLog n n Q 20 [(3, .int (nI k)), (0, .ref 95)] [] I J R n := by
  intro m
  induction m with
  | zero =>
    intro k hk9 hp
    rw [show k = c by omega] at hp ⊢
    refine a_iload_n 0 dM_layLog_20 rfl rfl ?_
    refine a_aload_n 1 dM_layLog_21 rfl rfl ?_
    refine a_callV (Q' := m_res (some (.int (nI c))) I J R) (as := []) (st := [.int (nI c)]) dM_layLog_22 ml12_438 rfl (Nat.le_of_ble_eq_true rfl) ly_95 rfl rfl (by decide) (by omega) (Nat.le_of_ble_eq_true rfl) rfl (Nat.le_refl _) (Nat.le_refl _) (c_M_factsE hn hR (show I 95 47 = nI kg from hkg) hg2 (show I 103 (17 * kg) = nI c from hcc)) (m_go ?_)
    show AW _ _ _ _ _ _ _ _ [.int (nI c), .int (nI c)] _ _ _ _
    refine a_icmp_geN (tgt := 49) dM_layLog_25 (by decide) (by omega) (by omega) (fun _ => ?_) (fun c => False.elim (by omega))
    exact hx hp
  | succ m ih =>
    intro k hk9 hp
    refine a_iload_n 0 dM_layLog_20 rfl rfl ?_
    refine a_aload_n 1 dM_layLog_21 rfl rfl ?_
    refine a_callV (Q' := m_res (some (.int (nI c))) I J R) (as := []) (st := [.int (nI k)]) dM_layLog_22 ml12_438 rfl (Nat.le_of_ble_eq_true rfl) ly_95 rfl rfl (by decide) (by omega) (Nat.le_of_ble_eq_true rfl) rfl (Nat.le_refl _) (Nat.le_refl _) (c_M_factsE hn hR (show I 95 47 = nI kg from hkg) hg2 (show I 103 (17 * kg) = nI c from hcc)) (m_go ?_)
    show AW _ _ _ _ _ _ _ _ [.int (nI c), .int (nI k)] _ _ _ _
    refine a_icmp_geN (tgt := 49) dM_layLog_25 (by decide) (by omega) (by omega) (fun c => False.elim (by omega)) (fun _ => ?_)
    refine a_aload_n 1 dM_layLog_28 rfl rfl ?_
    refine a_aload_n 1 dM_layLog_29 rfl rfl ?_
    refine a_iload_n 0 dM_layLog_30 rfl rfl ?_
    refine a_iconstN (a := 0) dM_layLog_31 (by decide) ?_
    refine a_callV (Q' := m_res (some (.int (fcR I kg k 0))) I J R) (as := [.int (nI k), .int (nI 0)]) (st := [.ref 95]) dM_layLog_32 ml12_441 rfl (Nat.le_of_ble_eq_true rfl) ly_95 rfl rfl (by decide) (by omega) (Nat.le_of_ble_eq_true rfl) rfl (Nat.le_refl _) (Nat.le_refl _) (c_M_factOf hn hR (show I 95 47 = nI kg from hkg) hg2 (by omega) (by omega)) (m_go ?_)
    show AW _ _ _ _ _ _ _ _ [.int (fcR I kg k 0), .ref 95] _ _ _ _
    refine a_callV (Q' := m_res (some (.int (f_in (fcR I kg k 0) 0 (nI nh - 1)))) I J R) (as := [.int (fcR I kg k 0)]) (st := []) dM_layLog_35 ml12_322 rfl (Nat.le_of_ble_eq_true rfl) ly_95 rfl rfl (by decide) (by omega) (Nat.le_of_ble_eq_true rfl) rfl (Nat.le_refl _) (Nat.le_refl _) (by have h := c_M_isHouse (S := S) (d := d + 5) (n := n) (J := J) (R := R) (I := I) (h := (fcR I kg k 0)) hn; rw [hh] at h; exact h) (m_go ?_)
    show AW _ _ _ _ _ _ _ _ [.int (f_in (fcR I kg k 0) 0 (nI nh - 1))] _ _ _ _
    refine a_if_ne (tgt := 43) dM_layLog_38 (by decide) (fun c38 => ?_) (fun c38 => ?_)
    · refine a_iincN (lv' := [(3, .int (nI (k + 1))), (0, .ref 95)]) (j := 0) dM_layLog_43 rfl (by decide) rfl ?_
      refine a_goto (tgt := 20) dM_layLog_46 (by decide) ?_
      exact ih (k + 1) (by omega) (fun j hj => by
        rcases Nat.lt_or_eq_of_le (Nat.le_of_lt_succ hj) with h1 | h1
        · exact hp j h1
        · subst h1; exact c38)
    · refine a_iconstN (a := 0) dM_layLog_41 (by decide) ?_
      exact a_zret dM_layLog_42 rfl (by rfl) (h0 k (by omega) (fun q => q c38))
theorem ly_self {I : mI} {F : Nat → Int32} : m_row (m_row (m_row (m_row (m_row I 95 F) 117 (I 117)) 107 (I 107)) 108 (I 108)) 109 (I 109) = m_row I 95 F := by
  rw [m_row_id (M := m_row I 95 F) (n := 117) (f := I 117) rfl, m_row_id (M := m_row I 95 F) (n := 107) (f := I 107) rfl, m_row_id (M := m_row I 95 F) (n := 108) (f := I 108) rfl, m_row_id (M := m_row I 95 F) (n := 109) (f := I 109) rfl]
def lyNS (I : mI) (ko nh nl kg c : Nat) (k : Nat) (s : Nat × (Nat → Int32) × (Nat → Int32) × (Nat → Int32) × (Nat → Int32)) : Nat × (Nat → Int32) × (Nat → Int32) × (Nat → Int32) × (Nat → Int32) := (if k = 99 then (if (soV I kg c (acS I ko nl k s.2.2.1 s.2.2.2.1 s.2.2.2.2).1) = 0 then (s.1, s.2.1, ((acS I ko nl k s.2.2.1 s.2.2.2.1 s.2.2.2.2).1), ((acS I ko nl k s.2.2.1 s.2.2.2.1 s.2.2.2.2).2.1), ((acS I ko nl k s.2.2.1 s.2.2.2.1 s.2.2.2.2).2.2)) else ((s.1 + 1), (va_up s.2.1 s.1 (nI k)), ((acS I ko nl k s.2.2.1 s.2.2.2.1 s.2.2.2.2).1), ((acS I ko nl k s.2.2.1 s.2.2.2.1 s.2.2.2.2).2.1), ((acS I ko nl k s.2.2.1 s.2.2.2.1 s.2.2.2.2).2.2))) else (if nh ≤ (k / 10) then (s.1, s.2.1, s.2.2.1, s.2.2.2.1, s.2.2.2.2) else (if nl ≤ (k % 10) then (s.1, s.2.1, s.2.2.1, s.2.2.2.1, s.2.2.2.2) else (if (I 106 (k % 10)) = (nI (k / 10)) then (s.1, s.2.1, s.2.2.1, s.2.2.2.1, s.2.2.2.2) else (if (soV I kg c (acS I ko nl k s.2.2.1 s.2.2.2.1 s.2.2.2.2).1) = 0 then (s.1, s.2.1, ((acS I ko nl k s.2.2.1 s.2.2.2.1 s.2.2.2.2).1), ((acS I ko nl k s.2.2.1 s.2.2.2.1 s.2.2.2.2).2.1), ((acS I ko nl k s.2.2.1 s.2.2.2.1 s.2.2.2.2).2.2)) else ((s.1 + 1), (va_up s.2.1 s.1 (nI k)), ((acS I ko nl k s.2.2.1 s.2.2.2.1 s.2.2.2.2).1), ((acS I ko nl k s.2.2.1 s.2.2.2.1 s.2.2.2.2).2.1), ((acS I ko nl k s.2.2.1 s.2.2.2.1 s.2.2.2.2).2.2)))))))
def lyN (I : mI) (ko nh nl kg c : Nat) (s0 : Nat × (Nat → Int32) × (Nat → Int32) × (Nat → Int32) × (Nat → Int32)) : Nat → Nat × (Nat → Int32) × (Nat → Int32) × (Nat → Int32) × (Nat → Int32)
  | 0 => s0
  | k + 1 => lyNS I ko nh nl kg c k (lyN I ko nh nl kg c s0 k)
theorem l_lyN {S : Nat × (Nat → Int32)} {d n : Nat} {I : mI} {J : mJ} {R : mR} {ko nh nl : Nat} (hn : 122 ≤ n) (hR : m_fin R) (ho : I 95 23 = nI ko) (hk : ko < 7) (hh : I 95 24 = nI nh) (hnh : nh ≤ 6) (hl : I 95 25 = nI nl) (hnl : nl ≤ 10) (hW : WFk I ko) {kg c : Nat} (hkg : I 95 47 = nI kg) (hg2 : kg < 2) (hcc : I 103 (17 * kg) = nI c) (hc8 : c ≤ 8) (hH : WFh (I 106) nl) (hF : WFg I kg c nh)  {s0 : Nat × (Nat → Int32) × (Nat → Int32) × (Nat → Int32) × (Nat → Int32)} {Q : Option Value → mI → mJ → mR → Prop} (hI : ∀ k, k < 100 → (lyN I ko nh nl kg c s0 k).1 ≤ 60) (hx : AW S (d + 7) YM_layLog n n Q 152 [(3, .int (nI 100)), (0, .ref 95)] [] (m_row (m_row (m_row (m_row (m_row I 95 (va_up (I 95) 49 (nI (lyN I ko nh nl kg c s0 100).1))) 117 ((lyN I ko nh nl kg c s0 100).2.1)) 107 ((lyN I ko nh nl kg c s0 100).2.2.1)) 108 ((lyN I ko nh nl kg c s0 100).2.2.2.1)) 109 ((lyN I ko nh nl kg c s0 100).2.2.2.2)) J R n) : ∀ m k, k + m = 100 → ∀ s : Nat × (Nat → Int32) × (Nat → Int32) × (Nat → Int32) × (Nat → Int32), lyN I ko nh nl kg c s0 k = s → AW S (d + 7) YM_layLog n n Q 56 [(3, .int (nI k)), (0, .ref 95)] [] (m_row (m_row (m_row (m_row (m_row I 95 (va_up (I 95) 49 (nI s.1))) 117 s.2.1) 107 s.2.2.1) 108 s.2.2.2.1) 109 s.2.2.2.2) J R n := by
  intro m
  induction m with
  | zero =>
    intro k hk9 s es
    rw [show k = 100 by omega] at es ⊢
    subst es
    refine a_iload_n 0 dM_layLog_56 rfl rfl ?_
    refine a_bipushN (a := 99) dM_layLog_57 (by decide) ?_
    refine a_icmp_gtN (tgt := 152) dM_layLog_59 (by decide) (by omega) (by omega) (fun _ => ?_) (fun c => False.elim (by omega))
    exact hx
  | succ m ih =>
    intro k hk9 s es
    have hfo := hI k (by omega)
    rw [es] at hfo
    refine a_iload_n 0 dM_layLog_56 rfl rfl ?_
    refine a_bipushN (a := 99) dM_layLog_57 (by decide) ?_
    refine a_icmp_gtN (tgt := 152) dM_layLog_59 (by decide) (by omega) (by omega) (fun c => False.elim (by omega)) (fun _ => ?_)
    refine a_iload_n 0 dM_layLog_62 rfl rfl ?_
    refine a_bipushN (a := 99) dM_layLog_63 (by decide) ?_
    refine a_icmp_eqN (tgt := 106) dM_layLog_65 (by decide) (by omega) (by omega) (fun c65 => ?_) (fun c65 => ?_)
    · refine a_iconstN (a := 1) dM_layLog_106 (by decide) ?_
      refine a_goto (tgt := 111) dM_layLog_107 (by decide) ?_
      refine a_istore (lv' := [(4, .int (nI 1)), (3, .int (nI k)), (0, .ref 95)]) dM_layLog_111 (by decide) rfl ?_
      refine a_iload 0 dM_layLog_113 rfl ?_
      refine a_if_eq (tgt := 146) dM_layLog_115 (by decide) (fun c => False.elim (absurd c (by decide))) (fun _ => ?_)
      refine a_aload_n 2 dM_layLog_118 rfl rfl ?_
      refine a_iload_n 1 dM_layLog_119 rfl rfl ?_
      refine a_callV (Q' := m_res (some (.int (soV I kg c (acS I ko nl k s.2.2.1 s.2.2.2.1 s.2.2.2.2).1))) (m_row (m_row (m_row (m_row (m_row I 95 (va_up (I 95) 49 (nI s.1))) 117 s.2.1) 107 ((acS I ko nl k s.2.2.1 s.2.2.2.1 s.2.2.2.2).1)) 108 ((acS I ko nl k s.2.2.1 s.2.2.2.1 s.2.2.2.2).2.1)) 109 ((acS I ko nl k s.2.2.1 s.2.2.2.1 s.2.2.2.2).2.2)) J R) (as := [.int (nI k)]) (st := []) dM_layLog_120 ml12_450 rfl (Nat.le_of_ble_eq_true rfl) ly_95 rfl rfl (by decide) (by omega) (Nat.le_of_ble_eq_true rfl) rfl (Nat.le_refl _) (Nat.le_refl _) (c_M_isSo (I := (m_row (m_row I 95 (va_up (I 95) 49 (nI s.1))) 117 s.2.1)) hn hR ho hk hh hnh hl hnl hW hH (by omega) hkg hg2 hcc hc8 hF) (m_go ?_)
      show AW _ _ _ _ _ _ _ _ [.int (soV I kg c (acS I ko nl k s.2.2.1 s.2.2.2.1 s.2.2.2.2).1)] _ _ _ _
      refine a_if_eq (tgt := 146) dM_layLog_123 (by decide) (fun c123 => ?_) (fun c123 => ?_)
      · refine a_iincN (lv' := [(3, .int (nI (k + 1))), (4, .int (nI 1)), (0, .ref 95)]) (j := 1) dM_layLog_146 rfl (by decide) rfl ?_
        refine a_goto (tgt := 56) dM_layLog_149 (by decide) ?_
        have e' : lyN I ko nh nl kg c s0 (k + 1) = (s.1, s.2.1, ((acS I ko nl k s.2.2.1 s.2.2.2.1 s.2.2.2.2).1), ((acS I ko nl k s.2.2.1 s.2.2.2.1 s.2.2.2.2).2.1), ((acS I ko nl k s.2.2.1 s.2.2.2.1 s.2.2.2.2).2.2)) := by
          show lyNS I ko nh nl kg c k (lyN I ko nh nl kg c s0 k) = _
          rw [es]
          unfold lyNS
          rw [if_pos (show k = 99 by omega), if_pos c123]
        refine a_locs (lv' := [(3, .int (nI (k + 1))), (0, .ref 95)]) [0, 2] rfl ?_
        exact ih (k + 1) (by omega) (s.1, s.2.1, ((acS I ko nl k s.2.2.1 s.2.2.2.1 s.2.2.2.2).1), ((acS I ko nl k s.2.2.1 s.2.2.2.1 s.2.2.2.2).2.1), ((acS I ko nl k s.2.2.1 s.2.2.2.1 s.2.2.2.2).2.2)) e'
      · refine a_aload_n 2 dM_layLog_126 rfl rfl ?_
        refine a_geta (r := 117) dM_layLog_127 fl12_75 rfl ly_95 (by omega) (rf_95_48 hR) ?_
        refine a_aload_n 2 dM_layLog_130 rfl rfl ?_
        refine a_geti dM_layLog_131 fl12_447 rfl ly_95 (by omega) ?_
        rw [show (m_row (m_row (m_row (m_row (m_row I 95 (va_up (I 95) 49 (nI s.1))) 117 s.2.1) 107 ((acS I ko nl k s.2.2.1 s.2.2.2.1 s.2.2.2.2).1)) 108 ((acS I ko nl k s.2.2.1 s.2.2.2.1 s.2.2.2.2).2.1)) 109 ((acS I ko nl k s.2.2.1 s.2.2.2.1 s.2.2.2.2).2.2)) 95 49 = (nI s.1) from rfl]
        refine a_iload_n 1 dM_layLog_134 rfl rfl ?_
        refine a_iastN (a := s.1) dM_layLog_135 ly_117 (by omega) (by omega) (by decide) ?_
        rw [show m_up (m_row (m_row (m_row (m_row (m_row I 95 (va_up (I 95) 49 (nI s.1))) 117 s.2.1) 107 ((acS I ko nl k s.2.2.1 s.2.2.2.1 s.2.2.2.2).1)) 108 ((acS I ko nl k s.2.2.1 s.2.2.2.1 s.2.2.2.2).2.1)) 109 ((acS I ko nl k s.2.2.1 s.2.2.2.1 s.2.2.2.2).2.2)) 117 s.1 (nI k) = (m_row (m_row (m_row (m_row (m_row I 95 (va_up (I 95) 49 (nI s.1))) 117 (va_up s.2.1 s.1 (nI k))) 107 ((acS I ko nl k s.2.2.1 s.2.2.2.1 s.2.2.2.2).1)) 108 ((acS I ko nl k s.2.2.1 s.2.2.2.1 s.2.2.2.2).2.1)) 109 ((acS I ko nl k s.2.2.1 s.2.2.2.1 s.2.2.2.2).2.2)) from (by rw [m_up_comm (by decide), m_up_comm (by decide), m_up_comm (by decide), m_up_r])]
        refine a_aload_n 2 dM_layLog_136 rfl rfl ?_
        refine a_dup dM_layLog_137 rfl ?_
        refine a_geti dM_layLog_138 fl12_447 rfl ly_95 (by omega) ?_
        rw [show (m_row (m_row (m_row (m_row (m_row I 95 (va_up (I 95) 49 (nI s.1))) 117 (va_up s.2.1 s.1 (nI k))) 107 ((acS I ko nl k s.2.2.1 s.2.2.2.1 s.2.2.2.2).1)) 108 ((acS I ko nl k s.2.2.1 s.2.2.2.1 s.2.2.2.2).2.1)) 109 ((acS I ko nl k s.2.2.1 s.2.2.2.1 s.2.2.2.2).2.2)) 95 49 = (nI s.1) from rfl]
        refine a_iconstN (a := 1) dM_layLog_141 (by decide) ?_
        refine a_iaddN (a := s.1) (b := 1) dM_layLog_142 ?_
        refine a_puti dM_layLog_143 fl12_447 rfl ly_95 (by omega) ?_
        rw [show m_up (m_row (m_row (m_row (m_row (m_row I 95 (va_up (I 95) 49 (nI s.1))) 117 (va_up s.2.1 s.1 (nI k))) 107 ((acS I ko nl k s.2.2.1 s.2.2.2.1 s.2.2.2.2).1)) 108 ((acS I ko nl k s.2.2.1 s.2.2.2.1 s.2.2.2.2).2.1)) 109 ((acS I ko nl k s.2.2.1 s.2.2.2.1 s.2.2.2.2).2.2)) 95 49 (nI (s.1 + 1)) = (m_row (m_row (m_row (m_row (m_row I 95 (va_up (I 95) 49 (nI (s.1 + 1)))) 117 (va_up s.2.1 s.1 (nI k))) 107 ((acS I ko nl k s.2.2.1 s.2.2.2.1 s.2.2.2.2).1)) 108 ((acS I ko nl k s.2.2.1 s.2.2.2.1 s.2.2.2.2).2.1)) 109 ((acS I ko nl k s.2.2.1 s.2.2.2.1 s.2.2.2.2).2.2)) from (by rw [m_up_comm (by decide), m_up_comm (by decide), m_up_comm (by decide), m_up_comm (by decide), m_up_r, show va_up (va_up (I 95) 49 (nI s.1)) 49 (nI (s.1 + 1)) = (va_up (I 95) 49 (nI (s.1 + 1))) from va_uu])]
        refine a_iincN (lv' := [(3, .int (nI (k + 1))), (4, .int (nI 1)), (0, .ref 95)]) (j := 1) dM_layLog_146 rfl (by decide) rfl ?_
        refine a_goto (tgt := 56) dM_layLog_149 (by decide) ?_
        have e' : lyN I ko nh nl kg c s0 (k + 1) = ((s.1 + 1), (va_up s.2.1 s.1 (nI k)), ((acS I ko nl k s.2.2.1 s.2.2.2.1 s.2.2.2.2).1), ((acS I ko nl k s.2.2.1 s.2.2.2.1 s.2.2.2.2).2.1), ((acS I ko nl k s.2.2.1 s.2.2.2.1 s.2.2.2.2).2.2)) := by
          show lyNS I ko nh nl kg c k (lyN I ko nh nl kg c s0 k) = _
          rw [es]
          unfold lyNS
          rw [if_pos (show k = 99 by omega), if_neg c123]
        refine a_locs (lv' := [(3, .int (nI (k + 1))), (0, .ref 95)]) [0, 2] rfl ?_
        exact ih (k + 1) (by omega) ((s.1 + 1), (va_up s.2.1 s.1 (nI k)), ((acS I ko nl k s.2.2.1 s.2.2.2.1 s.2.2.2.2).1), ((acS I ko nl k s.2.2.1 s.2.2.2.1 s.2.2.2.2).2.1), ((acS I ko nl k s.2.2.1 s.2.2.2.1 s.2.2.2.2).2.2)) e'
    · refine a_iload_n 0 dM_layLog_68 rfl rfl ?_
      refine a_bipushN (a := 10) dM_layLog_69 (by decide) ?_
      refine a_idivN dM_layLog_71 (by omega) (by omega) (by omega) ?_
      refine a_aload_n 1 dM_layLog_72 rfl rfl ?_
      refine a_geti dM_layLog_73 fl12_259 rfl ly_95 (by omega) ?_
      rw [show (m_row (m_row (m_row (m_row (m_row I 95 (va_up (I 95) 49 (nI s.1))) 117 s.2.1) 107 s.2.2.1) 108 s.2.2.2.1) 109 s.2.2.2.2) 95 24 = (nI nh) from hh]
      refine a_icmp_geN (tgt := 110) dM_layLog_76 (by decide) (by omega) (by omega) (fun c76 => ?_) (fun c76 => ?_)
      · refine a_iconstN (a := 0) dM_layLog_110 (by decide) ?_
        refine a_istore (lv' := [(4, .int (nI 0)), (3, .int (nI k)), (0, .ref 95)]) dM_layLog_111 (by decide) rfl ?_
        refine a_iload 0 dM_layLog_113 rfl ?_
        refine a_if_eq (tgt := 146) dM_layLog_115 (by decide) (fun _ => ?_) (fun c => False.elim (c rfl))
        refine a_iincN (lv' := [(3, .int (nI (k + 1))), (4, .int (nI 0)), (0, .ref 95)]) (j := 1) dM_layLog_146 rfl (by decide) rfl ?_
        refine a_goto (tgt := 56) dM_layLog_149 (by decide) ?_
        have e' : lyN I ko nh nl kg c s0 (k + 1) = (s.1, s.2.1, s.2.2.1, s.2.2.2.1, s.2.2.2.2) := by
          show lyNS I ko nh nl kg c k (lyN I ko nh nl kg c s0 k) = _
          rw [es]
          unfold lyNS
          rw [if_neg (show ¬ (k = 99) by omega), if_pos (show nh ≤ (k / 10) by omega)]
        refine a_locs (lv' := [(3, .int (nI (k + 1))), (0, .ref 95)]) [0, 2] rfl ?_
        exact ih (k + 1) (by omega) (s.1, s.2.1, s.2.2.1, s.2.2.2.1, s.2.2.2.2) e'
      · refine a_iload_n 0 dM_layLog_79 rfl rfl ?_
        refine a_bipushN (a := 10) dM_layLog_80 (by decide) ?_
        refine a_iremN dM_layLog_82 (by omega) (by omega) (by omega) ?_
        refine a_aload_n 1 dM_layLog_83 rfl rfl ?_
        refine a_geti dM_layLog_84 fl12_262 rfl ly_95 (by omega) ?_
        rw [show (m_row (m_row (m_row (m_row (m_row I 95 (va_up (I 95) 49 (nI s.1))) 117 s.2.1) 107 s.2.2.1) 108 s.2.2.2.1) 109 s.2.2.2.2) 95 25 = (nI nl) from hl]
        refine a_icmp_geN (tgt := 110) dM_layLog_87 (by decide) (by omega) (by omega) (fun c87 => ?_) (fun c87 => ?_)
        · refine a_iconstN (a := 0) dM_layLog_110 (by decide) ?_
          refine a_istore (lv' := [(4, .int (nI 0)), (3, .int (nI k)), (0, .ref 95)]) dM_layLog_111 (by decide) rfl ?_
          refine a_iload 0 dM_layLog_113 rfl ?_
          refine a_if_eq (tgt := 146) dM_layLog_115 (by decide) (fun _ => ?_) (fun c => False.elim (c rfl))
          refine a_iincN (lv' := [(3, .int (nI (k + 1))), (4, .int (nI 0)), (0, .ref 95)]) (j := 1) dM_layLog_146 rfl (by decide) rfl ?_
          refine a_goto (tgt := 56) dM_layLog_149 (by decide) ?_
          have e' : lyN I ko nh nl kg c s0 (k + 1) = (s.1, s.2.1, s.2.2.1, s.2.2.2.1, s.2.2.2.2) := by
            show lyNS I ko nh nl kg c k (lyN I ko nh nl kg c s0 k) = _
            rw [es]
            unfold lyNS
            rw [if_neg (show ¬ (k = 99) by omega), if_neg (show ¬ (nh ≤ (k / 10)) by omega), if_pos (show nl ≤ (k % 10) by omega)]
          refine a_locs (lv' := [(3, .int (nI (k + 1))), (0, .ref 95)]) [0, 2] rfl ?_
          exact ih (k + 1) (by omega) (s.1, s.2.1, s.2.2.1, s.2.2.2.1, s.2.2.2.2) e'
        · refine a_aload_n 1 dM_layLog_90 rfl rfl ?_
          refine a_geta (r := 106) dM_layLog_91 fl12_41 rfl ly_95 (by omega) (rf_95_26 hR) ?_
          refine a_iload_n 0 dM_layLog_94 rfl rfl ?_
          refine a_bipushN (a := 10) dM_layLog_95 (by decide) ?_
          refine a_iremN dM_layLog_97 (by omega) (by omega) (by omega) ?_
          refine a_ialdN (a := (k % 10)) dM_layLog_98 ly_106 (by omega) (by omega) (by decide) ?_
          rw [show (m_row (m_row (m_row (m_row (m_row I 95 (va_up (I 95) 49 (nI s.1))) 117 s.2.1) 107 s.2.2.1) 108 s.2.2.2.1) 109 s.2.2.2.2) 106 (k % 10) = I 106 (k % 10) from rfl]
          refine a_iload_n 0 dM_layLog_99 rfl rfl ?_
          refine a_bipushN (a := 10) dM_layLog_100 (by decide) ?_
          refine a_idivN dM_layLog_102 (by omega) (by omega) (by omega) ?_
          refine a_icmp_eq (tgt := 110) dM_layLog_103 (by decide) (fun c103 => ?_) (fun c103 => ?_)
          · refine a_iconstN (a := 0) dM_layLog_110 (by decide) ?_
            refine a_istore (lv' := [(4, .int (nI 0)), (3, .int (nI k)), (0, .ref 95)]) dM_layLog_111 (by decide) rfl ?_
            refine a_iload 0 dM_layLog_113 rfl ?_
            refine a_if_eq (tgt := 146) dM_layLog_115 (by decide) (fun _ => ?_) (fun c => False.elim (c rfl))
            refine a_iincN (lv' := [(3, .int (nI (k + 1))), (4, .int (nI 0)), (0, .ref 95)]) (j := 1) dM_layLog_146 rfl (by decide) rfl ?_
            refine a_goto (tgt := 56) dM_layLog_149 (by decide) ?_
            have e' : lyN I ko nh nl kg c s0 (k + 1) = (s.1, s.2.1, s.2.2.1, s.2.2.2.1, s.2.2.2.2) := by
              show lyNS I ko nh nl kg c k (lyN I ko nh nl kg c s0 k) = _
              rw [es]
              unfold lyNS
              rw [if_neg (show ¬ (k = 99) by omega), if_neg (show ¬ (nh ≤ (k / 10)) by omega), if_neg (show ¬ (nl ≤ (k % 10)) by omega), if_pos c103]
            refine a_locs (lv' := [(3, .int (nI (k + 1))), (0, .ref 95)]) [0, 2] rfl ?_
            exact ih (k + 1) (by omega) (s.1, s.2.1, s.2.2.1, s.2.2.2.1, s.2.2.2.2) e'
          · refine a_iconstN (a := 1) dM_layLog_106 (by decide) ?_
            refine a_goto (tgt := 111) dM_layLog_107 (by decide) ?_
            refine a_istore (lv' := [(4, .int (nI 1)), (3, .int (nI k)), (0, .ref 95)]) dM_layLog_111 (by decide) rfl ?_
            refine a_iload 0 dM_layLog_113 rfl ?_
            refine a_if_eq (tgt := 146) dM_layLog_115 (by decide) (fun c => False.elim (absurd c (by decide))) (fun _ => ?_)
            refine a_aload_n 2 dM_layLog_118 rfl rfl ?_
            refine a_iload_n 1 dM_layLog_119 rfl rfl ?_
            refine a_callV (Q' := m_res (some (.int (soV I kg c (acS I ko nl k s.2.2.1 s.2.2.2.1 s.2.2.2.2).1))) (m_row (m_row (m_row (m_row (m_row I 95 (va_up (I 95) 49 (nI s.1))) 117 s.2.1) 107 ((acS I ko nl k s.2.2.1 s.2.2.2.1 s.2.2.2.2).1)) 108 ((acS I ko nl k s.2.2.1 s.2.2.2.1 s.2.2.2.2).2.1)) 109 ((acS I ko nl k s.2.2.1 s.2.2.2.1 s.2.2.2.2).2.2)) J R) (as := [.int (nI k)]) (st := []) dM_layLog_120 ml12_450 rfl (Nat.le_of_ble_eq_true rfl) ly_95 rfl rfl (by decide) (by omega) (Nat.le_of_ble_eq_true rfl) rfl (Nat.le_refl _) (Nat.le_refl _) (c_M_isSo (I := (m_row (m_row I 95 (va_up (I 95) 49 (nI s.1))) 117 s.2.1)) hn hR ho hk hh hnh hl hnl hW hH (by omega) hkg hg2 hcc hc8 hF) (m_go ?_)
            show AW _ _ _ _ _ _ _ _ [.int (soV I kg c (acS I ko nl k s.2.2.1 s.2.2.2.1 s.2.2.2.2).1)] _ _ _ _
            refine a_if_eq (tgt := 146) dM_layLog_123 (by decide) (fun c123 => ?_) (fun c123 => ?_)
            · refine a_iincN (lv' := [(3, .int (nI (k + 1))), (4, .int (nI 1)), (0, .ref 95)]) (j := 1) dM_layLog_146 rfl (by decide) rfl ?_
              refine a_goto (tgt := 56) dM_layLog_149 (by decide) ?_
              have e' : lyN I ko nh nl kg c s0 (k + 1) = (s.1, s.2.1, ((acS I ko nl k s.2.2.1 s.2.2.2.1 s.2.2.2.2).1), ((acS I ko nl k s.2.2.1 s.2.2.2.1 s.2.2.2.2).2.1), ((acS I ko nl k s.2.2.1 s.2.2.2.1 s.2.2.2.2).2.2)) := by
                show lyNS I ko nh nl kg c k (lyN I ko nh nl kg c s0 k) = _
                rw [es]
                unfold lyNS
                rw [if_neg (show ¬ (k = 99) by omega), if_neg (show ¬ (nh ≤ (k / 10)) by omega), if_neg (show ¬ (nl ≤ (k % 10)) by omega), if_neg c103, if_pos c123]
              refine a_locs (lv' := [(3, .int (nI (k + 1))), (0, .ref 95)]) [0, 2] rfl ?_
              exact ih (k + 1) (by omega) (s.1, s.2.1, ((acS I ko nl k s.2.2.1 s.2.2.2.1 s.2.2.2.2).1), ((acS I ko nl k s.2.2.1 s.2.2.2.1 s.2.2.2.2).2.1), ((acS I ko nl k s.2.2.1 s.2.2.2.1 s.2.2.2.2).2.2)) e'
            · refine a_aload_n 2 dM_layLog_126 rfl rfl ?_
              refine a_geta (r := 117) dM_layLog_127 fl12_75 rfl ly_95 (by omega) (rf_95_48 hR) ?_
              refine a_aload_n 2 dM_layLog_130 rfl rfl ?_
              refine a_geti dM_layLog_131 fl12_447 rfl ly_95 (by omega) ?_
              rw [show (m_row (m_row (m_row (m_row (m_row I 95 (va_up (I 95) 49 (nI s.1))) 117 s.2.1) 107 ((acS I ko nl k s.2.2.1 s.2.2.2.1 s.2.2.2.2).1)) 108 ((acS I ko nl k s.2.2.1 s.2.2.2.1 s.2.2.2.2).2.1)) 109 ((acS I ko nl k s.2.2.1 s.2.2.2.1 s.2.2.2.2).2.2)) 95 49 = (nI s.1) from rfl]
              refine a_iload_n 1 dM_layLog_134 rfl rfl ?_
              refine a_iastN (a := s.1) dM_layLog_135 ly_117 (by omega) (by omega) (by decide) ?_
              rw [show m_up (m_row (m_row (m_row (m_row (m_row I 95 (va_up (I 95) 49 (nI s.1))) 117 s.2.1) 107 ((acS I ko nl k s.2.2.1 s.2.2.2.1 s.2.2.2.2).1)) 108 ((acS I ko nl k s.2.2.1 s.2.2.2.1 s.2.2.2.2).2.1)) 109 ((acS I ko nl k s.2.2.1 s.2.2.2.1 s.2.2.2.2).2.2)) 117 s.1 (nI k) = (m_row (m_row (m_row (m_row (m_row I 95 (va_up (I 95) 49 (nI s.1))) 117 (va_up s.2.1 s.1 (nI k))) 107 ((acS I ko nl k s.2.2.1 s.2.2.2.1 s.2.2.2.2).1)) 108 ((acS I ko nl k s.2.2.1 s.2.2.2.1 s.2.2.2.2).2.1)) 109 ((acS I ko nl k s.2.2.1 s.2.2.2.1 s.2.2.2.2).2.2)) from (by rw [m_up_comm (by decide), m_up_comm (by decide), m_up_comm (by decide), m_up_r])]
              refine a_aload_n 2 dM_layLog_136 rfl rfl ?_
              refine a_dup dM_layLog_137 rfl ?_
              refine a_geti dM_layLog_138 fl12_447 rfl ly_95 (by omega) ?_
              rw [show (m_row (m_row (m_row (m_row (m_row I 95 (va_up (I 95) 49 (nI s.1))) 117 (va_up s.2.1 s.1 (nI k))) 107 ((acS I ko nl k s.2.2.1 s.2.2.2.1 s.2.2.2.2).1)) 108 ((acS I ko nl k s.2.2.1 s.2.2.2.1 s.2.2.2.2).2.1)) 109 ((acS I ko nl k s.2.2.1 s.2.2.2.1 s.2.2.2.2).2.2)) 95 49 = (nI s.1) from rfl]
              refine a_iconstN (a := 1) dM_layLog_141 (by decide) ?_
              refine a_iaddN (a := s.1) (b := 1) dM_layLog_142 ?_
              refine a_puti dM_layLog_143 fl12_447 rfl ly_95 (by omega) ?_
              rw [show m_up (m_row (m_row (m_row (m_row (m_row I 95 (va_up (I 95) 49 (nI s.1))) 117 (va_up s.2.1 s.1 (nI k))) 107 ((acS I ko nl k s.2.2.1 s.2.2.2.1 s.2.2.2.2).1)) 108 ((acS I ko nl k s.2.2.1 s.2.2.2.1 s.2.2.2.2).2.1)) 109 ((acS I ko nl k s.2.2.1 s.2.2.2.1 s.2.2.2.2).2.2)) 95 49 (nI (s.1 + 1)) = (m_row (m_row (m_row (m_row (m_row I 95 (va_up (I 95) 49 (nI (s.1 + 1)))) 117 (va_up s.2.1 s.1 (nI k))) 107 ((acS I ko nl k s.2.2.1 s.2.2.2.1 s.2.2.2.2).1)) 108 ((acS I ko nl k s.2.2.1 s.2.2.2.1 s.2.2.2.2).2.1)) 109 ((acS I ko nl k s.2.2.1 s.2.2.2.1 s.2.2.2.2).2.2)) from (by rw [m_up_comm (by decide), m_up_comm (by decide), m_up_comm (by decide), m_up_comm (by decide), m_up_r, show va_up (va_up (I 95) 49 (nI s.1)) 49 (nI (s.1 + 1)) = (va_up (I 95) 49 (nI (s.1 + 1))) from va_uu])]
              refine a_iincN (lv' := [(3, .int (nI (k + 1))), (4, .int (nI 1)), (0, .ref 95)]) (j := 1) dM_layLog_146 rfl (by decide) rfl ?_
              refine a_goto (tgt := 56) dM_layLog_149 (by decide) ?_
              have e' : lyN I ko nh nl kg c s0 (k + 1) = ((s.1 + 1), (va_up s.2.1 s.1 (nI k)), ((acS I ko nl k s.2.2.1 s.2.2.2.1 s.2.2.2.2).1), ((acS I ko nl k s.2.2.1 s.2.2.2.1 s.2.2.2.2).2.1), ((acS I ko nl k s.2.2.1 s.2.2.2.1 s.2.2.2.2).2.2)) := by
                show lyNS I ko nh nl kg c k (lyN I ko nh nl kg c s0 k) = _
                rw [es]
                unfold lyNS
                rw [if_neg (show ¬ (k = 99) by omega), if_neg (show ¬ (nh ≤ (k / 10)) by omega), if_neg (show ¬ (nl ≤ (k % 10)) by omega), if_neg c103, if_neg c123]
              refine a_locs (lv' := [(3, .int (nI (k + 1))), (0, .ref 95)]) [0, 2] rfl ?_
              exact ih (k + 1) (by omega) ((s.1 + 1), (va_up s.2.1 s.1 (nI k)), ((acS I ko nl k s.2.2.1 s.2.2.2.1 s.2.2.2.2).1), ((acS I ko nl k s.2.2.1 s.2.2.2.1 s.2.2.2.2).2.1), ((acS I ko nl k s.2.2.1 s.2.2.2.1 s.2.2.2.2).2.2)) e'
abbrev ly5 : Type := Nat × (Nat → Int32) × (Nat → Int32) × (Nat → Int32) × (Nat → Int32)
theorem lyN_le {I : mI} {ko nh nl kg c : Nat} (hnh : nh ≤ 6) {fi md ls cm : Nat → Int32} : ∀ k, k < 100 → (lyN I ko nh nl kg c (0, fi, md, ls, cm) k).1 ≤ k ∧ (lyN I ko nh nl kg c (0, fi, md, ls, cm) k).1 ≤ 60 := by
  intro k
  induction k with
  | zero => intro _; exact ⟨Nat.le_refl _, Nat.zero_le _⟩
  | succ k ih =>
    intro hk
    obtain ⟨i1, i2⟩ := ih (by omega)
    have e : lyN I ko nh nl kg c (0, fi, md, ls, cm) (k + 1) = lyNS I ko nh nl kg c k (lyN I ko nh nl kg c (0, fi, md, ls, cm) k) := rfl
    rw [e]
    generalize lyN I ko nh nl kg c (0, fi, md, ls, cm) k = s at i1 i2 ⊢
    unfold lyNS
    rw [if_neg (show ¬ k = 99 by omega)]
    by_cases h1 : nh ≤ k / 10
    · rw [if_pos h1]; exact ⟨Nat.le_succ_of_le i1, i2⟩
    · rw [if_neg h1]
      split
      · exact ⟨Nat.le_succ_of_le i1, i2⟩
      · split
        · exact ⟨Nat.le_succ_of_le i1, i2⟩
        · split
          · exact ⟨Nat.le_succ_of_le i1, i2⟩
          · exact ⟨Nat.succ_le_succ i1, by show s.1 + 1 ≤ 60; omega⟩
abbrev lyT (I : mI) (ko nh nl kg c : Nat) : ly5 := lyN I ko nh nl kg c (0, I 117, I 107, I 108, I 109) 100
abbrev lyM (I : mI) (s : ly5) : mI := m_row (m_row (m_row (m_row (m_row I 95 (va_up (I 95) 49 (nI s.1))) 117 s.2.1) 107 s.2.2.1) 108 s.2.2.2.1) 109 s.2.2.2.2
theorem b_M_layLog {S : Nat × (Nat → Int32)} {d n : Nat} {I : mI} {J : mJ} {R : mR} {ko nh nl : Nat} (hn : 122 ≤ n) (hR : m_fin R) (ho : I 95 23 = nI ko) (hk : ko < 7) (hh : I 95 24 = nI nh) (hnh : nh ≤ 6) (hl : I 95 25 = nI nl) (hnl : nl ≤ 10) (hW : WFk I ko) {kg c : Nat} (hkg : I 95 47 = nI kg) (hg2 : kg < 2) (hcc : I 103 (17 * kg) = nI c) (hc8 : c ≤ 8) (hH : WFh (I 106) nl)  {Q : Option Value → mI → mJ → mR → Prop} (hQ0 : (∃ k, k < c ∧ f_in (fcR I kg k 0) 0 (nI nh - 1) = 0) → Q (some (.int 0)) I J R) (hQ1 : WFg I kg c nh → Q (some (.int 1)) (lyM I (lyT I ko nh nl kg c)) J R) : AW S (d + 7) YM_layLog n n Q 18 [(0, .ref 95)] [] I J R n := by
  refine a_iconstN (a := 0) dM_layLog_18 (by decide) ?_
  refine a_istore_n (lv' := [(3, .int (nI 0)), (0, .ref 95)]) dM_layLog_19 rfl (by decide) rfl ?_
  refine a_locs (lv' := [(3, .int (nI 0)), (0, .ref 95)]) [0, 1] rfl ?_
  refine l_lay1 hn hR ho hk hh hnh hl hnl hW hkg hg2 hcc hc8 (fun k hk2 hp => hQ0 ⟨k, hk2, Classical.not_not.mp hp⟩) (fun hp => ?_) c 0 (by omega) (fun j hj => absurd hj (Nat.not_lt_zero _))
  have hF : WFg I kg c nh := fun k hk2 => f_in_nz (by omega) (hp k hk2)
  refine a_aload_n 1 dM_layLog_49 rfl rfl ?_
  refine a_iconstN (a := 0) dM_layLog_50 (by decide) ?_
  refine a_puti dM_layLog_51 fl12_447 rfl ly_95 (by omega) ?_
  refine a_iconstN (a := 0) dM_layLog_54 (by decide) ?_
  refine a_istore_n (lv' := [(3, .int (nI 0)), (0, .ref 95)]) dM_layLog_55 rfl (by decide) rfl ?_
  refine a_mem (show m_up I 95 49 (nI 0) = (m_row (m_row (m_row (m_row (m_row I 95 (va_up (I 95) 49 (nI 0))) 117 (I 117)) 107 (I 107)) 108 (I 108)) 109 (I 109)) from ly_self.symm) ?_
  refine l_lyN (s0 := (0, I 117, I 107, I 108, I 109)) hn hR ho hk hh hnh hl hnl hW hkg hg2 hcc hc8 hH hF (fun k hk => (lyN_le hnh k hk).2) ?_ 100 0 (by omega) _ rfl
  refine a_iconstN (a := 1) dM_layLog_152 (by decide) ?_
  exact a_zret dM_layLog_153 rfl (by rfl) (hQ1 hF)
def suNS (I : mI) (u : Int32) (k : Nat) (s : Int32) : Int32 := (if u = 0 then (if (nI ((hmN (I 117) (k + 1)) / 10)) = s then s else (-1)) else (if (nI ((hmN (I 117) (k + 1)) % 10)) = s then s else (-1)))
def suN (I : mI) (u : Int32) (s0 : Int32) : Nat → Int32
  | 0 => s0
  | k + 1 => suNS I u k (suN I u s0 k)
theorem l_suN {S : Nat × (Nat → Int32)} {d n : Nat} {I : mI} {J : mJ} {R : mR} (hn : 122 ≤ n) (hR : m_fin R) {fo : Nat} (hfo : I 95 49 = nI fo) (hf61 : fo ≤ 61) (hft : ∀ k, k < fo → I 117 k = nI (hmN (I 117) k) ∧ (hmN (I 117) k < 60 ∨ hmN (I 117) k = 99)) {u : Int32}  {s0 : Int32} {Q : Option Value → mI → mJ → mR → Prop}  (hx : AW S d YM_sureOf n n Q 104 [(3, .int (nI ((fo - 1) + 1))), (2, .int (suN I u s0 (fo - 1))), (0, .ref 95), (1, .int u)] [] I J R n) : ∀ m k, k + m = (fo - 1) → ∀ s : Int32, suN I u s0 k = s → AW S d YM_sureOf n n Q 55 [(3, .int (nI (k + 1))), (2, .int s), (0, .ref 95), (1, .int u)] [] I J R n := by
  intro m
  induction m with
  | zero =>
    intro k hk9 s es
    rw [show k = (fo - 1) by omega] at es ⊢
    subst es
    refine a_iload_n 0 dM_sureOf_55 rfl rfl ?_
    refine a_aload_n 2 dM_sureOf_56 rfl rfl ?_
    refine a_geti dM_sureOf_57 fl12_447 rfl ly_95 (by omega) ?_
    rw [show I 95 49 = (nI fo) from hfo]
    refine a_icmp_geN (tgt := 104) dM_sureOf_60 (by decide) (by omega) (by omega) (fun _ => ?_) (fun c => False.elim (by omega))
    exact hx
  | succ m ih =>
    intro k hk9 s es
    have hb1 := (hft (k + 1) (by omega)).2
    refine a_iload_n 0 dM_sureOf_55 rfl rfl ?_
    refine a_aload_n 2 dM_sureOf_56 rfl rfl ?_
    refine a_geti dM_sureOf_57 fl12_447 rfl ly_95 (by omega) ?_
    rw [show I 95 49 = (nI fo) from hfo]
    refine a_icmp_geN (tgt := 104) dM_sureOf_60 (by decide) (by omega) (by omega) (fun c => False.elim (by omega)) (fun _ => ?_)
    refine a_iload_n 3 dM_sureOf_63 rfl rfl ?_
    refine a_if_eq (tgt := 79) dM_sureOf_64 (by decide) (fun c64 => ?_) (fun c64 => ?_)
    · refine a_aload_n 2 dM_sureOf_79 rfl rfl ?_
      refine a_geta (r := 117) dM_sureOf_80 fl12_75 rfl ly_95 (by omega) (rf_95_48 hR) ?_
      refine a_iload_n 0 dM_sureOf_83 rfl rfl ?_
      refine a_ialdN (a := (k + 1)) dM_sureOf_84 ly_117 (by omega) (by omega) (by decide) ?_
      rw [show I 117 (k + 1) = I 117 (k + 1) from rfl]
      rw [show (I 117 (k + 1)) = (nI (hmN (I 117) (k + 1))) from (hft (k + 1) (by omega)).1]
      refine a_bipushN (a := 10) dM_sureOf_85 (by decide) ?_
      refine a_idivN dM_sureOf_87 (by omega) (by omega) (by omega) ?_
      refine a_iload_n 1 dM_sureOf_88 rfl rfl ?_
      refine a_icmp_ne (tgt := 96) dM_sureOf_89 (by decide) (fun c89 => ?_) (fun c89 => ?_)
      · refine a_iconst (v := -1) dM_sureOf_96 (by decide) ?_
        refine a_istore_n (lv' := [(2, .int (-1)), (3, .int (nI (k + 1))), (0, .ref 95), (1, .int u)]) dM_sureOf_97 rfl (by decide) rfl ?_
        refine a_iincN (lv' := [(3, .int (nI ((k + 1) + 1))), (2, .int (-1)), (0, .ref 95), (1, .int u)]) (j := 1) dM_sureOf_98 rfl (by decide) rfl ?_
        refine a_goto (tgt := 55) dM_sureOf_101 (by decide) ?_
        have e' : suN I u s0 (k + 1) = (-1) := by
          show suNS I u k (suN I u s0 k) = _
          rw [es]
          unfold suNS
          rw [if_pos c64, if_neg c89]
        exact ih (k + 1) (by omega) (-1) e'
      · refine a_iload_n 1 dM_sureOf_92 rfl rfl ?_
        refine a_goto (tgt := 97) dM_sureOf_93 (by decide) ?_
        refine a_istore_n (lv' := [(2, .int s), (3, .int (nI (k + 1))), (0, .ref 95), (1, .int u)]) dM_sureOf_97 rfl (by decide) rfl ?_
        refine a_iincN (lv' := [(3, .int (nI ((k + 1) + 1))), (2, .int s), (0, .ref 95), (1, .int u)]) (j := 1) dM_sureOf_98 rfl (by decide) rfl ?_
        refine a_goto (tgt := 55) dM_sureOf_101 (by decide) ?_
        have e' : suN I u s0 (k + 1) = s := by
          show suNS I u k (suN I u s0 k) = _
          rw [es]
          unfold suNS
          rw [if_pos c64, if_pos c89]
        exact ih (k + 1) (by omega) s e'
    · refine a_aload_n 2 dM_sureOf_67 rfl rfl ?_
      refine a_geta (r := 117) dM_sureOf_68 fl12_75 rfl ly_95 (by omega) (rf_95_48 hR) ?_
      refine a_iload_n 0 dM_sureOf_71 rfl rfl ?_
      refine a_ialdN (a := (k + 1)) dM_sureOf_72 ly_117 (by omega) (by omega) (by decide) ?_
      rw [show I 117 (k + 1) = I 117 (k + 1) from rfl]
      rw [show (I 117 (k + 1)) = (nI (hmN (I 117) (k + 1))) from (hft (k + 1) (by omega)).1]
      refine a_bipushN (a := 10) dM_sureOf_73 (by decide) ?_
      refine a_iremN dM_sureOf_75 (by omega) (by omega) (by omega) ?_
      refine a_goto (tgt := 88) dM_sureOf_76 (by decide) ?_
      refine a_iload_n 1 dM_sureOf_88 rfl rfl ?_
      refine a_icmp_ne (tgt := 96) dM_sureOf_89 (by decide) (fun c89 => ?_) (fun c89 => ?_)
      · refine a_iconst (v := -1) dM_sureOf_96 (by decide) ?_
        refine a_istore_n (lv' := [(2, .int (-1)), (3, .int (nI (k + 1))), (0, .ref 95), (1, .int u)]) dM_sureOf_97 rfl (by decide) rfl ?_
        refine a_iincN (lv' := [(3, .int (nI ((k + 1) + 1))), (2, .int (-1)), (0, .ref 95), (1, .int u)]) (j := 1) dM_sureOf_98 rfl (by decide) rfl ?_
        refine a_goto (tgt := 55) dM_sureOf_101 (by decide) ?_
        have e' : suN I u s0 (k + 1) = (-1) := by
          show suNS I u k (suN I u s0 k) = _
          rw [es]
          unfold suNS
          rw [if_neg c64, if_neg c89]
        exact ih (k + 1) (by omega) (-1) e'
      · refine a_iload_n 1 dM_sureOf_92 rfl rfl ?_
        refine a_goto (tgt := 97) dM_sureOf_93 (by decide) ?_
        refine a_istore_n (lv' := [(2, .int s), (3, .int (nI (k + 1))), (0, .ref 95), (1, .int u)]) dM_sureOf_97 rfl (by decide) rfl ?_
        refine a_iincN (lv' := [(3, .int (nI ((k + 1) + 1))), (2, .int s), (0, .ref 95), (1, .int u)]) (j := 1) dM_sureOf_98 rfl (by decide) rfl ?_
        refine a_goto (tgt := 55) dM_sureOf_101 (by decide) ?_
        have e' : suN I u s0 (k + 1) = s := by
          show suNS I u k (suN I u s0 k) = _
          rw [es]
          unfold suNS
          rw [if_neg c64, if_pos c89]
        exact ih (k + 1) (by omega) s e'
