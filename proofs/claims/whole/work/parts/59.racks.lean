/-- a letter's rack -/
def rkO (r l : Int32) : Int32 := (r >>> ((nI 2 * l) &&& 31)) &&& nI 3
theorem c_M_rackOf {S : Nat × (Nat → Int32)} {d n : Nat} {I : mI} {J : mJ} {R : mR} {r l : Int32}  : RUN S d YM_rackOf [.int r, .int l] I J R n (some (.int (rkO r l))) I J R n := by
  show AW S _ YM_rackOf n n _ 0 [(0, .int r), (1, .int l)] [] I J R n
  refine a_iload_n 0 dM_rackOf_0 rfl rfl ?_
  refine a_iconstN (a := 2) dM_rackOf_1 (by decide) ?_
  refine a_iload_n 1 dM_rackOf_2 rfl rfl ?_
  refine a_imul dM_rackOf_3 ?_
  refine a_ishr dM_rackOf_4 ?_
  refine a_iconstN (a := 3) dM_rackOf_5 (by decide) ?_
  refine a_iand dM_rackOf_6 ?_
  exact a_iret dM_rackOf_7 rfl ⟨rfl, rfl, rfl, rfl⟩
theorem c_M_rackN {S : Nat × (Nat → Int32)} {d n : Nat} {I : mI} {J : mJ} {R : mR} {r l : Int32} : RUN S d YM_rackOf [.int r, .int l] I J R n (some (.int (rkO r l))) I J R n := c_M_rackOf
def roNS (I : mI) (ko : Nat) (r lo : Int32) (k : Nat) (s : Int32) : Int32 := (if (f_has lo (nI k)) = 0 then (if (oR I ko (39 + k)) = (-1) then (s ||| ((rkO r (nI k)) <<< ((nI (2 * k)) &&& 31))) else (s ||| ((((rkO r (oR I ko (39 + k))) + (oR I ko (49 + k))) &&& (nI 3)) <<< ((nI (2 * k)) &&& 31)))) else (s ||| ((rkO r (nI k)) <<< ((nI (2 * k)) &&& 31))))
def roN (I : mI) (ko : Nat) (r lo : Int32) (s0 : Int32) : Nat → Int32
  | 0 => s0
  | k + 1 => roNS I ko r lo k (roN I ko r lo s0 k)
theorem l_roN {S : Nat × (Nat → Int32)} {d n : Nat} {I : mI} {J : mJ} {R : mR} {ko nh nl : Nat} (hn : 122 ≤ n) (hR : m_fin R) (ho : I 95 23 = nI ko) (hk : ko < 7) (hh : I 95 24 = nI nh) (hnh : nh ≤ 6) (hl : I 95 25 = nI nl) (hnl : nl ≤ 10) (hW : WFk I ko) {r lo : Int32}  {s0 : Int32} {Q : Option Value → mI → mJ → mR → Prop}  (hx : AW S (d + 2) YM_round n n Q 89 [(4, .int (nI nl)), (3, .int (roN I ko r lo s0 nl)), (0, .ref 95), (1, .int r), (2, .int lo)] [] I J R n) : ∀ m k, k + m = nl → ∀ s : Int32, roN I ko r lo s0 k = s → AW S (d + 2) YM_round n n Q 5 [(4, .int (nI k)), (3, .int s), (0, .ref 95), (1, .int r), (2, .int lo)] [] I J R n := by
  intro m
  induction m with
  | zero =>
    intro k hk9 s es
    rw [show k = nl by omega] at es ⊢
    subst es
    refine a_iload 0 dM_round_5 rfl ?_
    refine a_aload_n 2 dM_round_7 rfl rfl ?_
    refine a_geti dM_round_8 fl12_262 rfl ly_95 (by omega) ?_
    rw [show I 95 25 = (nI nl) from hl]
    refine a_icmp_geN (tgt := 89) dM_round_11 (by decide) (by omega) (by omega) (fun _ => ?_) (fun c => False.elim (by omega))
    exact hx
  | succ m ih =>
    intro k hk9 s es
    refine a_iload 0 dM_round_5 rfl ?_
    refine a_aload_n 2 dM_round_7 rfl rfl ?_
    refine a_geti dM_round_8 fl12_262 rfl ly_95 (by omega) ?_
    rw [show I 95 25 = (nI nl) from hl]
    refine a_icmp_geN (tgt := 89) dM_round_11 (by decide) (by omega) (by omega) (fun c => False.elim (by omega)) (fun _ => ?_)
    refine a_iload_n 4 dM_round_14 rfl rfl ?_
    refine a_iload 0 dM_round_15 rfl ?_
    refine a_callS (Q' := m_res (some (.int (f_has lo (nI k)))) I J R) (as := [.int lo, .int (nI k)]) (st := []) dM_round_17 ml12_94 rfl (Nat.le_of_ble_eq_true rfl) (Nat.le_of_ble_eq_true rfl) rfl (Nat.le_refl _) (Nat.le_refl _) c_M_has (m_go ?_)
    show AW _ _ _ _ _ _ _ _ [.int (f_has lo (nI k))] _ _ _ _
    refine a_if_eq (tgt := 27) dM_round_20 (by decide) (fun c20 => ?_) (fun c20 => ?_)
    · refine a_aload_n 2 dM_round_27 rfl rfl ?_
      refine a_bipushN (a := 39) dM_round_28 (by decide) ?_
      refine a_iload 0 dM_round_30 rfl ?_
      refine a_iaddN (a := 39) (b := k) dM_round_32 ?_
      refine a_callV (Q' := m_res (some (.int (oR I ko (39 + k)))) I J R) (as := [.int (nI (39 + k))]) (st := []) dM_round_33 ml12_255 rfl (Nat.le_of_ble_eq_true rfl) ly_95 rfl rfl (by decide) (by omega) (Nat.le_of_ble_eq_true rfl) rfl (Nat.le_refl _) (Nat.le_refl _) (c_M_of hn hR ho (by omega)) (m_go ?_)
      show AW _ _ _ _ _ _ _ _ [.int (oR I ko (39 + k))] _ _ _ _
      refine a_istore (lv' := [(5, .int (oR I ko (39 + k))), (4, .int (nI k)), (3, .int s), (0, .ref 95), (1, .int r), (2, .int lo)]) dM_round_36 (by decide) rfl ?_
      refine a_iload 0 dM_round_38 rfl ?_
      refine a_iconst (v := -1) dM_round_40 (by decide) ?_
      refine a_icmp_ne (tgt := 53) dM_round_41 (by decide) (fun c41 => ?_) (fun c41 => ?_)
      · refine a_iload_n 4 dM_round_53 rfl rfl ?_
        refine a_iload 0 dM_round_54 rfl ?_
        refine a_callS (Q' := m_res (some (.int (rkO r (oR I ko (39 + k))))) I J R) (as := [.int r, .int (oR I ko (39 + k))]) (st := []) dM_round_56 ml12_399 rfl (Nat.le_of_ble_eq_true rfl) (Nat.le_of_ble_eq_true rfl) rfl (Nat.le_refl _) (Nat.le_refl _) c_M_rackOf (m_go ?_)
        show AW _ _ _ _ _ _ _ _ [.int (rkO r (oR I ko (39 + k)))] _ _ _ _
        refine a_aload_n 3 dM_round_59 rfl rfl ?_
        refine a_bipushN (a := 49) dM_round_60 (by decide) ?_
        refine a_iload 1 dM_round_62 rfl ?_
        refine a_iaddN (a := 49) (b := k) dM_round_64 ?_
        refine a_callV (Q' := m_res (some (.int (oR I ko (49 + k)))) I J R) (as := [.int (nI (49 + k))]) (st := [.int (rkO r (oR I ko (39 + k)))]) dM_round_65 ml12_255 rfl (Nat.le_of_ble_eq_true rfl) ly_95 rfl rfl (by decide) (by omega) (Nat.le_of_ble_eq_true rfl) rfl (Nat.le_refl _) (Nat.le_refl _) (c_M_of hn hR ho (by omega)) (m_go ?_)
        show AW _ _ _ _ _ _ _ _ [.int (oR I ko (49 + k)), .int (rkO r (oR I ko (39 + k)))] _ _ _ _
        refine a_iadd dM_round_68 ?_
        refine a_iconstN (a := 3) dM_round_69 (by decide) ?_
        refine a_iand dM_round_70 ?_
        refine a_istore (lv' := [(6, .int (((rkO r (oR I ko (39 + k))) + (oR I ko (49 + k))) &&& (nI 3))), (5, .int (oR I ko (39 + k))), (4, .int (nI k)), (3, .int s), (0, .ref 95), (1, .int r), (2, .int lo)]) dM_round_71 (by decide) rfl ?_
        refine a_iload_n 3 dM_round_73 rfl rfl ?_
        refine a_iload 0 dM_round_74 rfl ?_
        refine a_iconstN (a := 2) dM_round_76 (by decide) ?_
        refine a_iload 2 dM_round_77 rfl ?_
        refine a_imulN (a := 2) (b := k) dM_round_79 ?_
        refine a_ishl dM_round_80 ?_
        refine a_ior dM_round_81 ?_
        refine a_istore_n (lv' := [(3, .int (s ||| ((((rkO r (oR I ko (39 + k))) + (oR I ko (49 + k))) &&& (nI 3)) <<< ((nI (2 * k)) &&& 31)))), (6, .int (((rkO r (oR I ko (39 + k))) + (oR I ko (49 + k))) &&& (nI 3))), (5, .int (oR I ko (39 + k))), (4, .int (nI k)), (0, .ref 95), (1, .int r), (2, .int lo)]) dM_round_82 rfl (by decide) rfl ?_
        refine a_iincN (lv' := [(4, .int (nI (k + 1))), (3, .int (s ||| ((((rkO r (oR I ko (39 + k))) + (oR I ko (49 + k))) &&& (nI 3)) <<< ((nI (2 * k)) &&& 31)))), (6, .int (((rkO r (oR I ko (39 + k))) + (oR I ko (49 + k))) &&& (nI 3))), (5, .int (oR I ko (39 + k))), (0, .ref 95), (1, .int r), (2, .int lo)]) (j := 3) dM_round_83 rfl (by decide) rfl ?_
        refine a_goto (tgt := 5) dM_round_86 (by decide) ?_
        have e' : roN I ko r lo s0 (k + 1) = (s ||| ((((rkO r (oR I ko (39 + k))) + (oR I ko (49 + k))) &&& (nI 3)) <<< ((nI (2 * k)) &&& 31))) := by
          show roNS I ko r lo k (roN I ko r lo s0 k) = _
          rw [es]
          unfold roNS
          rw [if_pos c20, if_neg c41]
        refine a_locs (lv' := [(4, .int (nI (k + 1))), (3, .int (s ||| ((((rkO r (oR I ko (39 + k))) + (oR I ko (49 + k))) &&& (nI 3)) <<< ((nI (2 * k)) &&& 31)))), (0, .ref 95), (1, .int r), (2, .int lo)]) [0, 1, 4, 5, 6] rfl ?_
        exact ih (k + 1) (by omega) (s ||| ((((rkO r (oR I ko (39 + k))) + (oR I ko (49 + k))) &&& (nI 3)) <<< ((nI (2 * k)) &&& 31))) e'
      · refine a_iload_n 4 dM_round_44 rfl rfl ?_
        refine a_iload 1 dM_round_45 rfl ?_
        refine a_callS (Q' := m_res (some (.int (rkO r (nI k)))) I J R) (as := [.int r, .int (nI k)]) (st := []) dM_round_47 ml12_399 rfl (Nat.le_of_ble_eq_true rfl) (Nat.le_of_ble_eq_true rfl) rfl (Nat.le_refl _) (Nat.le_refl _) c_M_rackOf (m_go ?_)
        show AW _ _ _ _ _ _ _ _ [.int (rkO r (nI k))] _ _ _ _
        refine a_goto (tgt := 71) dM_round_50 (by decide) ?_
        refine a_istore (lv' := [(6, .int (rkO r (nI k))), (5, .int (oR I ko (39 + k))), (4, .int (nI k)), (3, .int s), (0, .ref 95), (1, .int r), (2, .int lo)]) dM_round_71 (by decide) rfl ?_
        refine a_iload_n 3 dM_round_73 rfl rfl ?_
        refine a_iload 0 dM_round_74 rfl ?_
        refine a_iconstN (a := 2) dM_round_76 (by decide) ?_
        refine a_iload 2 dM_round_77 rfl ?_
        refine a_imulN (a := 2) (b := k) dM_round_79 ?_
        refine a_ishl dM_round_80 ?_
        refine a_ior dM_round_81 ?_
        refine a_istore_n (lv' := [(3, .int (s ||| ((rkO r (nI k)) <<< ((nI (2 * k)) &&& 31)))), (6, .int (rkO r (nI k))), (5, .int (oR I ko (39 + k))), (4, .int (nI k)), (0, .ref 95), (1, .int r), (2, .int lo)]) dM_round_82 rfl (by decide) rfl ?_
        refine a_iincN (lv' := [(4, .int (nI (k + 1))), (3, .int (s ||| ((rkO r (nI k)) <<< ((nI (2 * k)) &&& 31)))), (6, .int (rkO r (nI k))), (5, .int (oR I ko (39 + k))), (0, .ref 95), (1, .int r), (2, .int lo)]) (j := 3) dM_round_83 rfl (by decide) rfl ?_
        refine a_goto (tgt := 5) dM_round_86 (by decide) ?_
        have e' : roN I ko r lo s0 (k + 1) = (s ||| ((rkO r (nI k)) <<< ((nI (2 * k)) &&& 31))) := by
          show roNS I ko r lo k (roN I ko r lo s0 k) = _
          rw [es]
          unfold roNS
          rw [if_pos c20, if_pos c41]
        refine a_locs (lv' := [(4, .int (nI (k + 1))), (3, .int (s ||| ((rkO r (nI k)) <<< ((nI (2 * k)) &&& 31)))), (0, .ref 95), (1, .int r), (2, .int lo)]) [0, 1, 4, 5, 6] rfl ?_
        exact ih (k + 1) (by omega) (s ||| ((rkO r (nI k)) <<< ((nI (2 * k)) &&& 31))) e'
    · refine a_iconst (v := -1) dM_round_23 (by decide) ?_
      refine a_goto (tgt := 36) dM_round_24 (by decide) ?_
      refine a_istore (lv' := [(5, .int (-1)), (4, .int (nI k)), (3, .int s), (0, .ref 95), (1, .int r), (2, .int lo)]) dM_round_36 (by decide) rfl ?_
      refine a_iload 0 dM_round_38 rfl ?_
      refine a_iconst (v := -1) dM_round_40 (by decide) ?_
      refine a_icmp_ne (tgt := 53) dM_round_41 (by decide) (fun c => False.elim (c rfl)) (fun _ => ?_)
      refine a_iload_n 4 dM_round_44 rfl rfl ?_
      refine a_iload 1 dM_round_45 rfl ?_
      refine a_callS (Q' := m_res (some (.int (rkO r (nI k)))) I J R) (as := [.int r, .int (nI k)]) (st := []) dM_round_47 ml12_399 rfl (Nat.le_of_ble_eq_true rfl) (Nat.le_of_ble_eq_true rfl) rfl (Nat.le_refl _) (Nat.le_refl _) c_M_rackOf (m_go ?_)
      show AW _ _ _ _ _ _ _ _ [.int (rkO r (nI k))] _ _ _ _
      refine a_goto (tgt := 71) dM_round_50 (by decide) ?_
      refine a_istore (lv' := [(6, .int (rkO r (nI k))), (5, .int (-1)), (4, .int (nI k)), (3, .int s), (0, .ref 95), (1, .int r), (2, .int lo)]) dM_round_71 (by decide) rfl ?_
      refine a_iload_n 3 dM_round_73 rfl rfl ?_
      refine a_iload 0 dM_round_74 rfl ?_
      refine a_iconstN (a := 2) dM_round_76 (by decide) ?_
      refine a_iload 2 dM_round_77 rfl ?_
      refine a_imulN (a := 2) (b := k) dM_round_79 ?_
      refine a_ishl dM_round_80 ?_
      refine a_ior dM_round_81 ?_
      refine a_istore_n (lv' := [(3, .int (s ||| ((rkO r (nI k)) <<< ((nI (2 * k)) &&& 31)))), (6, .int (rkO r (nI k))), (5, .int (-1)), (4, .int (nI k)), (0, .ref 95), (1, .int r), (2, .int lo)]) dM_round_82 rfl (by decide) rfl ?_
      refine a_iincN (lv' := [(4, .int (nI (k + 1))), (3, .int (s ||| ((rkO r (nI k)) <<< ((nI (2 * k)) &&& 31)))), (6, .int (rkO r (nI k))), (5, .int (-1)), (0, .ref 95), (1, .int r), (2, .int lo)]) (j := 3) dM_round_83 rfl (by decide) rfl ?_
      refine a_goto (tgt := 5) dM_round_86 (by decide) ?_
      have e' : roN I ko r lo s0 (k + 1) = (s ||| ((rkO r (nI k)) <<< ((nI (2 * k)) &&& 31))) := by
        show roNS I ko r lo k (roN I ko r lo s0 k) = _
        rw [es]
        unfold roNS
        rw [if_neg c20]
      refine a_locs (lv' := [(4, .int (nI (k + 1))), (3, .int (s ||| ((rkO r (nI k)) <<< ((nI (2 * k)) &&& 31)))), (0, .ref 95), (1, .int r), (2, .int lo)]) [0, 1, 4, 5, 6] rfl ?_
      exact ih (k + 1) (by omega) (s ||| ((rkO r (nI k)) <<< ((nI (2 * k)) &&& 31))) e'
abbrev roR (I : mI) (ko nl : Nat) (r lo : Int32) : Int32 := roN I ko r lo (nI 0) nl
theorem c_M_round {S : Nat × (Nat → Int32)} {d n : Nat} {I : mI} {J : mJ} {R : mR} {ko nh nl : Nat} (hn : 122 ≤ n) (hR : m_fin R) (ho : I 95 23 = nI ko) (hk : ko < 7) (hh : I 95 24 = nI nh) (hnh : nh ≤ 6) (hl : I 95 25 = nI nl) (hnl : nl ≤ 10) (hW : WFk I ko) {r lo : Int32}  : RUN S (d + 2) YM_round [.ref 95, .int r, .int lo] I J R n (some (.int (roR I ko nl r lo))) I J R n := by
  show AW S _ YM_round n n _ 0 [(0, .ref 95), (1, .int r), (2, .int lo)] [] I J R n
  refine a_iconstN (a := 0) dM_round_0 (by decide) ?_
  refine a_istore_n (lv' := [(3, .int (nI 0)), (0, .ref 95), (1, .int r), (2, .int lo)]) dM_round_1 rfl (by decide) rfl ?_
  refine a_iconstN (a := 0) dM_round_2 (by decide) ?_
  refine a_istore (lv' := [(4, .int (nI 0)), (3, .int (nI 0)), (0, .ref 95), (1, .int r), (2, .int lo)]) dM_round_3 (by decide) rfl ?_
  refine l_roN (s0 := (nI 0)) hn hR ho hk hh hnh hl hnl hW ?_ nl 0 (by omega) _ rfl
  refine a_iload_n 1 dM_round_89 rfl rfl ?_
  exact a_iret dM_round_90 rfl ⟨rfl, rfl, rfl, rfl⟩
def rsAS (I : mI) (ko : Nat) (k : Nat) (s : Int32) : Int32 := (s ||| ((oR I ko (19 + k)) <<< ((nI (2 * k)) &&& 31)))
def rsA (I : mI) (ko : Nat) (s0 : Int32) : Nat → Int32
  | 0 => s0
  | k + 1 => rsAS I ko k (rsA I ko s0 k)
theorem l_rsA {S : Nat × (Nat → Int32)} {d n : Nat} {I : mI} {J : mJ} {R : mR} {ko nh nl : Nat} (hn : 122 ≤ n) (hR : m_fin R) (ho : I 95 23 = nI ko) (hk : ko < 7) (hh : I 95 24 = nI nh) (hnh : nh ≤ 6) (hl : I 95 25 = nI nl) (hnl : nl ≤ 10) (hW : WFk I ko) {lo : Int32} {N : Nat}  {s0 : Int32} {Q : Option Value → mI → mJ → mR → Prop}  (hx : AW S (d + 3) YM_rounds n n Q 34 [(4, .int (nI nl)), (3, .int (rsA I ko s0 nl)), (0, .ref 95), (1, .int (nI N)), (2, .int lo)] [] I J R n) : ∀ m k, k + m = nl → ∀ s : Int32, rsA I ko s0 k = s → AW S (d + 3) YM_rounds n n Q 5 [(4, .int (nI k)), (3, .int s), (0, .ref 95), (1, .int (nI N)), (2, .int lo)] [] I J R n := by
  intro m
  induction m with
  | zero =>
    intro k hk9 s es
    rw [show k = nl by omega] at es ⊢
    subst es
    refine a_iload 0 dM_rounds_5 rfl ?_
    refine a_aload_n 2 dM_rounds_7 rfl rfl ?_
    refine a_geti dM_rounds_8 fl12_262 rfl ly_95 (by omega) ?_
    rw [show I 95 25 = (nI nl) from hl]
    refine a_icmp_geN (tgt := 34) dM_rounds_11 (by decide) (by omega) (by omega) (fun _ => ?_) (fun c => False.elim (by omega))
    exact hx
  | succ m ih =>
    intro k hk9 s es
    refine a_iload 0 dM_rounds_5 rfl ?_
    refine a_aload_n 2 dM_rounds_7 rfl rfl ?_
    refine a_geti dM_rounds_8 fl12_262 rfl ly_95 (by omega) ?_
    rw [show I 95 25 = (nI nl) from hl]
    refine a_icmp_geN (tgt := 34) dM_rounds_11 (by decide) (by omega) (by omega) (fun c => False.elim (by omega)) (fun _ => ?_)
    refine a_iload_n 1 dM_rounds_14 rfl rfl ?_
    refine a_aload_n 2 dM_rounds_15 rfl rfl ?_
    refine a_iload 0 dM_rounds_16 rfl ?_
    refine a_callV (Q' := m_res (some (.int (oR I ko (19 + k)))) I J R) (as := [.int (nI k)]) (st := [.int s]) dM_rounds_18 ml12_271 rfl (Nat.le_of_ble_eq_true rfl) ly_95 rfl rfl (by decide) (by omega) (Nat.le_of_ble_eq_true rfl) rfl (Nat.le_refl _) (Nat.le_refl _) (c_M_kind hn hR (show I 95 23 = nI ko from ho) hk (by omega)) (m_go ?_)
    show AW _ _ _ _ _ _ _ _ [.int (oR I ko (19 + k)), .int s] _ _ _ _
    refine a_iconstN (a := 2) dM_rounds_21 (by decide) ?_
    refine a_iload 0 dM_rounds_22 rfl ?_
    refine a_imulN (a := 2) (b := k) dM_rounds_24 ?_
    refine a_ishl dM_rounds_25 ?_
    refine a_ior dM_rounds_26 ?_
    refine a_istore_n (lv' := [(3, .int (s ||| ((oR I ko (19 + k)) <<< ((nI (2 * k)) &&& 31)))), (4, .int (nI k)), (0, .ref 95), (1, .int (nI N)), (2, .int lo)]) dM_rounds_27 rfl (by decide) rfl ?_
    refine a_iincN (lv' := [(4, .int (nI (k + 1))), (3, .int (s ||| ((oR I ko (19 + k)) <<< ((nI (2 * k)) &&& 31)))), (0, .ref 95), (1, .int (nI N)), (2, .int lo)]) (j := 1) dM_rounds_28 rfl (by decide) rfl ?_
    refine a_goto (tgt := 5) dM_rounds_31 (by decide) ?_
    have e' : rsA I ko s0 (k + 1) = (s ||| ((oR I ko (19 + k)) <<< ((nI (2 * k)) &&& 31))) := by
      show rsAS I ko k (rsA I ko s0 k) = _
      rw [es]
      unfold rsAS
      rfl
    exact ih (k + 1) (by omega) (s ||| ((oR I ko (19 + k)) <<< ((nI (2 * k)) &&& 31))) e'
/-- the racks at first, and behind rounds -/
abbrev rs0 (I : mI) (ko nl : Nat) : Int32 := rsA I ko (nI 0) nl
def rsN (I : mI) (ko nl : Nat) (lo r : Int32) : Nat → Int32
  | 0 => r
  | k + 1 => roR I ko nl (rsN I ko nl lo r k) lo
theorem l_rsN {S : Nat × (Nat → Int32)} {d n : Nat} {I : mI} {J : mJ} {R : mR} {ko nh nl : Nat} (hn : 122 ≤ n) (hR : m_fin R) (ho : I 95 23 = nI ko) (hk : ko < 7) (hh : I 95 24 = nI nh) (hnh : nh ≤ 6) (hl : I 95 25 = nI nl) (hnl : nl ≤ 10) (hW : WFk I ko) {lo r : Int32} {N : Nat} (hN : N < 2 ^ 31)   {Q : Option Value → mI → mJ → mR → Prop}  (hx : AW S (d + 3) YM_rounds n n Q 56 [(4, .int (nI N)), (3, .int (rsN I ko nl lo r N)), (0, .ref 95), (1, .int (nI N)), (2, .int lo)] [] I J R n) : ∀ m k, k + m = N → ∀ s : Int32, rsN I ko nl lo r k = s → AW S (d + 3) YM_rounds n n Q 37 [(4, .int (nI k)), (3, .int s), (0, .ref 95), (1, .int (nI N)), (2, .int lo)] [] I J R n := by
  intro m
  induction m with
  | zero =>
    intro k hk9 s es
    rw [show k = N by omega] at es ⊢
    subst es
    refine a_iload 0 dM_rounds_37 rfl ?_
    refine a_iload_n 3 dM_rounds_39 rfl rfl ?_
    refine a_icmp_geN (tgt := 56) dM_rounds_40 (by decide) (by omega) (by omega) (fun _ => ?_) (fun c => False.elim (by omega))
    exact hx
  | succ m ih =>
    intro k hk9 s es
    refine a_iload 0 dM_rounds_37 rfl ?_
    refine a_iload_n 3 dM_rounds_39 rfl rfl ?_
    refine a_icmp_geN (tgt := 56) dM_rounds_40 (by decide) (by omega) (by omega) (fun c => False.elim (by omega)) (fun _ => ?_)
    refine a_aload_n 2 dM_rounds_43 rfl rfl ?_
    refine a_iload_n 1 dM_rounds_44 rfl rfl ?_
    refine a_iload_n 4 dM_rounds_45 rfl rfl ?_
    refine a_callV (Q' := m_res (some (.int (roR I ko nl s lo))) I J R) (as := [.int s, .int lo]) (st := []) dM_rounds_46 ml12_402 rfl (Nat.le_of_ble_eq_true rfl) ly_95 rfl rfl (by decide) (by omega) (Nat.le_of_ble_eq_true rfl) rfl (Nat.le_refl _) (Nat.le_refl _) (c_M_round (I := I) hn hR ho hk hh hnh hl hnl hW) (m_go ?_)
    show AW _ _ _ _ _ _ _ _ [.int (roR I ko nl s lo)] _ _ _ _
    refine a_istore_n (lv' := [(3, .int (roR I ko nl s lo)), (4, .int (nI k)), (0, .ref 95), (1, .int (nI N)), (2, .int lo)]) dM_rounds_49 rfl (by decide) rfl ?_
    refine a_iincN (lv' := [(4, .int (nI (k + 1))), (3, .int (roR I ko nl s lo)), (0, .ref 95), (1, .int (nI N)), (2, .int lo)]) (j := 1) dM_rounds_50 rfl (by decide) rfl ?_
    refine a_goto (tgt := 37) dM_rounds_53 (by decide) ?_
    have e' : rsN I ko nl lo r (k + 1) = (roR I ko nl s lo) := by
      unfold rsN
      rw [es]
    exact ih (k + 1) (by omega) (roR I ko nl s lo) e'
theorem c_M_rounds {S : Nat × (Nat → Int32)} {d n : Nat} {I : mI} {J : mJ} {R : mR} {ko nh nl : Nat} (hn : 122 ≤ n) (hR : m_fin R) (ho : I 95 23 = nI ko) (hk : ko < 7) (hh : I 95 24 = nI nh) (hnh : nh ≤ 6) (hl : I 95 25 = nI nl) (hnl : nl ≤ 10) (hW : WFk I ko) {lo : Int32} {N : Nat} (hN : N < 2 ^ 31)  : RUN S (d + 3) YM_rounds [.ref 95, .int (nI N), .int lo] I J R n (some (.int (rsN I ko nl lo (rs0 I ko nl) N))) I J R n := by
  show AW S _ YM_rounds n n _ 0 [(0, .ref 95), (1, .int (nI N)), (2, .int lo)] [] I J R n
  refine a_iconstN (a := 0) dM_rounds_0 (by decide) ?_
  refine a_istore_n (lv' := [(3, .int (nI 0)), (0, .ref 95), (1, .int (nI N)), (2, .int lo)]) dM_rounds_1 rfl (by decide) rfl ?_
  refine a_iconstN (a := 0) dM_rounds_2 (by decide) ?_
  refine a_istore (lv' := [(4, .int (nI 0)), (3, .int (nI 0)), (0, .ref 95), (1, .int (nI N)), (2, .int lo)]) dM_rounds_3 (by decide) rfl ?_
  refine l_rsA (s0 := (nI 0)) hn hR ho hk hh hnh hl hnl hW ?_ nl 0 (by omega) _ rfl
  refine a_iconstN (a := 0) dM_rounds_34 (by decide) ?_
  refine a_istore (lv' := [(4, .int (nI 0)), (3, .int (rsA I ko (nI 0) nl)), (0, .ref 95), (1, .int (nI N)), (2, .int lo)]) dM_rounds_35 (by decide) rfl ?_
  refine l_rsN  hn hR ho hk hh hnh hl hnl hW (r := rs0 I ko nl) hN ?_ N 0 (by omega) _ rfl
  refine a_iload_n 1 dM_rounds_56 rfl rfl ?_
  exact a_iret dM_rounds_57 rfl ⟨rfl, rfl, rfl, rfl⟩
theorem b_M_rack {S : Nat × (Nat → Int32)} {d n : Nat} {I : mI} {J : mJ} {R : mR} {ko nh nl : Nat} (hn : 122 ≤ n) (hR : m_fin R) (ho : I 95 23 = nI ko) (hk : ko < 7) (hh : I 95 24 = nI nh) (hnh : nh ≤ 6) (hl : I 95 25 = nI nl) (hnl : nl ≤ 10) (hW : WFk I ko) {x : Int32} {N : Nat} (hN : N < 2 ^ 31)  {Q : Option Value → mI → mJ → mR → Prop} (hQ : Q (some (.int (rkO (rsN I ko nl (nI 0) (rs0 I ko nl) N) x))) I J R) : AW S (d + 4) YM_rack n n Q 32 [(0, .ref 95), (2, .int x), (3, .int (nI N))] [] I J R n := by
  refine a_aload_n 0 dM_rack_32 rfl rfl ?_
  refine a_iload_n 2 dM_rack_33 rfl rfl ?_
  refine a_iconstN (a := 0) dM_rack_34 (by decide) ?_
  refine a_callV (Q' := m_res (some (.int (rsN I ko nl (nI 0) (rs0 I ko nl) N))) I J R) (as := [.int (nI N), .int (nI 0)]) (st := []) dM_rack_35 ml12_405 rfl (Nat.le_of_ble_eq_true rfl) ly_95 rfl rfl (by decide) (by omega) (Nat.le_of_ble_eq_true rfl) rfl (Nat.le_refl _) (Nat.le_refl _) (c_M_rounds (I := I) hn hR ho hk hh hnh hl hnl hW (by omega)) (m_go ?_)
  show AW _ _ _ _ _ _ _ _ [.int (rsN I ko nl (nI 0) (rs0 I ko nl) N)] _ _ _ _
  refine a_iload_n 1 dM_rack_38 rfl rfl ?_
  refine a_callS (Q' := m_res (some (.int (rkO (rsN I ko nl (nI 0) (rs0 I ko nl) N) x))) I J R) (as := [.int (rsN I ko nl (nI 0) (rs0 I ko nl) N), .int x]) (st := []) dM_rack_39 ml12_399 rfl (Nat.le_of_ble_eq_true rfl) (Nat.le_of_ble_eq_true rfl) rfl (Nat.le_refl _) (Nat.le_refl _) c_M_rackOf (m_go ?_)
  show AW _ _ _ _ _ _ _ _ [.int (rkO (rsN I ko nl (nI 0) (rs0 I ko nl) N) x)] _ _ _ _
  refine a_goto (tgt := 46) dM_rack_42 (by decide) ?_
  exact a_iret dM_rack_46 rfl hQ
theorem l_stF {S : Nat × (Nat → Int32)} {d n : Nat} {I : mI} {J : mJ} {R : mR} {ko nh nl : Nat} (hn : 122 ≤ n) (hR : m_fin R) (ho : I 95 23 = nI ko) (hk : ko < 7) (hh : I 95 24 = nI nh) (hnh : nh ≤ 6) (hl : I 95 25 = nI nl) (hnl : nl ≤ 10) (hW : WFk I ko)  {Q : Option Value → mI → mJ → mR → Prop} (h0 : ∀ k, k < 11 → ¬ (¬ roR I ko nl (rsN I ko nl (nI 0) (rsN I ko nl (nI 0) (rs0 I ko nl) 0) k) (nI 0) = (rsN I ko nl (nI 0) (rsN I ko nl (nI 0) (rs0 I ko nl) 0) k)) → (∀ j, j < k → ¬ roR I ko nl (rsN I ko nl (nI 0) (rsN I ko nl (nI 0) (rs0 I ko nl) 0) j) (nI 0) = (rsN I ko nl (nI 0) (rsN I ko nl (nI 0) (rs0 I ko nl) 0) j)) → Q (some (.int (nI k))) I J R) (hx : (∀ k, k < 11 → ¬ roR I ko nl (rsN I ko nl (nI 0) (rsN I ko nl (nI 0) (rs0 I ko nl) 0) k) (nI 0) = (rsN I ko nl (nI 0) (rsN I ko nl (nI 0) (rs0 I ko nl) 0) k)) → AW S (d + 4) YM_settles n n Q 37 [(2, .int (nI 11)), (1, .int (rsN I ko nl (nI 0) (rsN I ko nl (nI 0) (rs0 I ko nl) 0) 11)), (0, .ref 95)] [] I J R n) : ∀ m k, k + m = 11 → (∀ j, j < k → ¬ roR I ko nl (rsN I ko nl (nI 0) (rsN I ko nl (nI 0) (rs0 I ko nl) 0) j) (nI 0) = (rsN I ko nl (nI 0) (rsN I ko nl (nI 0) (rs0 I ko nl) 0) j)) → AW S (d + 4) YM_settles n n Q 9 [(2, .int (nI k)), (1, .int (rsN I ko nl (nI 0) (rsN I ko nl (nI 0) (rs0 I ko nl) 0) k)), (0, .ref 95)] [] I J R n := by
  intro m
  induction m with
  | zero =>
    intro k hk9 hp
    rw [show k = 11 by omega] at hp ⊢
    refine a_iload_n 0 dM_settles_9 rfl rfl ?_
    refine a_bipushN (a := 10) dM_settles_10 (by decide) ?_
    refine a_icmp_gtN (tgt := 37) dM_settles_12 (by decide) (by omega) (by omega) (fun _ => ?_) (fun c => False.elim (by omega))
    exact hx hp
  | succ m ih =>
    intro k hk9 hp
    refine a_iload_n 0 dM_settles_9 rfl rfl ?_
    refine a_bipushN (a := 10) dM_settles_10 (by decide) ?_
    refine a_icmp_gtN (tgt := 37) dM_settles_12 (by decide) (by omega) (by omega) (fun c => False.elim (by omega)) (fun _ => ?_)
    refine a_aload_n 2 dM_settles_15 rfl rfl ?_
    refine a_iload_n 1 dM_settles_16 rfl rfl ?_
    refine a_iconstN (a := 0) dM_settles_17 (by decide) ?_
    refine a_callV (Q' := m_res (some (.int (roR I ko nl (rsN I ko nl (nI 0) (rsN I ko nl (nI 0) (rs0 I ko nl) 0) k) (nI 0)))) I J R) (as := [.int (rsN I ko nl (nI 0) (rsN I ko nl (nI 0) (rs0 I ko nl) 0) k), .int (nI 0)]) (st := []) dM_settles_18 ml12_402 rfl (Nat.le_of_ble_eq_true rfl) ly_95 rfl rfl (by decide) (by omega) (Nat.le_of_ble_eq_true rfl) rfl (Nat.le_refl _) (Nat.le_refl _) (c_M_round (I := I) hn hR ho hk hh hnh hl hnl hW) (m_go ?_)
    show AW _ _ _ _ _ _ _ _ [.int (roR I ko nl (rsN I ko nl (nI 0) (rsN I ko nl (nI 0) (rs0 I ko nl) 0) k) (nI 0))] _ _ _ _
    refine a_istore_n (lv' := [(3, .int (roR I ko nl (rsN I ko nl (nI 0) (rsN I ko nl (nI 0) (rs0 I ko nl) 0) k) (nI 0))), (2, .int (nI k)), (1, .int (rsN I ko nl (nI 0) (rsN I ko nl (nI 0) (rs0 I ko nl) 0) k)), (0, .ref 95)]) dM_settles_21 rfl (by decide) rfl ?_
    refine a_iload_n 0 dM_settles_22 rfl rfl ?_
    refine a_iload_n 2 dM_settles_23 rfl rfl ?_
    refine a_icmp_ne (tgt := 29) dM_settles_24 (by decide) (fun c24 => ?_) (fun c24 => ?_)
    · refine a_iload_n 0 dM_settles_29 rfl rfl ?_
      refine a_istore_n (lv' := [(1, .int (roR I ko nl (rsN I ko nl (nI 0) (rsN I ko nl (nI 0) (rs0 I ko nl) 0) k) (nI 0))), (3, .int (roR I ko nl (rsN I ko nl (nI 0) (rsN I ko nl (nI 0) (rs0 I ko nl) 0) k) (nI 0))), (2, .int (nI k)), (0, .ref 95)]) dM_settles_30 rfl (by decide) rfl ?_
      refine a_iincN (lv' := [(2, .int (nI (k + 1))), (1, .int (roR I ko nl (rsN I ko nl (nI 0) (rsN I ko nl (nI 0) (rs0 I ko nl) 0) k) (nI 0))), (3, .int (roR I ko nl (rsN I ko nl (nI 0) (rsN I ko nl (nI 0) (rs0 I ko nl) 0) k) (nI 0))), (0, .ref 95)]) (j := 2) dM_settles_31 rfl (by decide) rfl ?_
      refine a_goto (tgt := 9) dM_settles_34 (by decide) ?_
      refine a_locs (lv' := [(2, .int (nI (k + 1))), (1, .int (roR I ko nl (rsN I ko nl (nI 0) (rsN I ko nl (nI 0) (rs0 I ko nl) 0) k) (nI 0))), (0, .ref 95)]) [0, 1, 3] rfl ?_
      exact ih (k + 1) (by omega) (fun j hj => by
        rcases Nat.lt_or_eq_of_le (Nat.le_of_lt_succ hj) with h1 | h1
        · exact hp j h1
        · subst h1; exact c24)
    · refine a_iload_n 1 dM_settles_27 rfl rfl ?_
      exact a_iret dM_settles_28 rfl (h0 k (by omega) (fun q => q c24) hp)
/-- behind how many rounds racks settle -/
def seV (I : mI) (ko nl : Nat) (v : Int32) : Prop := (∃ k, k < 11 ∧ roR I ko nl (rsN I ko nl (nI 0) (rsN I ko nl (nI 0) (rs0 I ko nl) 0) k) (nI 0) = (rsN I ko nl (nI 0) (rsN I ko nl (nI 0) (rs0 I ko nl) 0) k) ∧ (∀ j, j < k → ¬ roR I ko nl (rsN I ko nl (nI 0) (rsN I ko nl (nI 0) (rs0 I ko nl) 0) j) (nI 0) = (rsN I ko nl (nI 0) (rsN I ko nl (nI 0) (rs0 I ko nl) 0) j)) ∧ v = nI k) ∨ ((∀ k, k < 11 → ¬ roR I ko nl (rsN I ko nl (nI 0) (rsN I ko nl (nI 0) (rs0 I ko nl) 0) k) (nI 0) = (rsN I ko nl (nI 0) (rsN I ko nl (nI 0) (rs0 I ko nl) 0) k)) ∧ v = -1)
theorem b_M_settles {S : Nat × (Nat → Int32)} {d n : Nat} {I : mI} {J : mJ} {R : mR} {ko nh nl : Nat} (hn : 122 ≤ n) (hR : m_fin R) (ho : I 95 23 = nI ko) (hk : ko < 7) (hh : I 95 24 = nI nh) (hnh : nh ≤ 6) (hl : I 95 25 = nI nl) (hnl : nl ≤ 10) (hW : WFk I ko)  {Q : Option Value → mI → mJ → mR → Prop} (hQ : ∀ v, seV I ko nl v → Q (some (.int v)) I J R) : AW S (d + 4) YM_settles n n Q 0 [(0, .ref 95)] [] I J R n := by
  refine a_aload_n 0 dM_settles_0 rfl rfl ?_
  refine a_iconstN (a := 0) dM_settles_1 (by decide) ?_
  refine a_iconstN (a := 0) dM_settles_2 (by decide) ?_
  refine a_callV (Q' := m_res (some (.int (rsN I ko nl (nI 0) (rs0 I ko nl) 0))) I J R) (as := [.int (nI 0), .int (nI 0)]) (st := []) dM_settles_3 ml12_405 rfl (Nat.le_of_ble_eq_true rfl) ly_95 rfl rfl (by decide) (by omega) (Nat.le_of_ble_eq_true rfl) rfl (Nat.le_refl _) (Nat.le_refl _) (c_M_rounds (I := I) hn hR ho hk hh hnh hl hnl hW (by omega)) (m_go ?_)
  show AW _ _ _ _ _ _ _ _ [.int (rsN I ko nl (nI 0) (rs0 I ko nl) 0)] _ _ _ _
  refine a_istore_n (lv' := [(1, .int (rsN I ko nl (nI 0) (rs0 I ko nl) 0)), (0, .ref 95)]) dM_settles_6 rfl (by decide) rfl ?_
  refine a_iconstN (a := 0) dM_settles_7 (by decide) ?_
  refine a_istore_n (lv' := [(2, .int (nI 0)), (1, .int (rsN I ko nl (nI 0) (rs0 I ko nl) 0)), (0, .ref 95)]) dM_settles_8 rfl (by decide) rfl ?_
  refine a_locs (lv' := [(2, .int (nI 0)), (1, .int (rsN I ko nl (nI 0) (rs0 I ko nl) 0)), (0, .ref 95)]) [0, 1, 2] rfl ?_
  refine l_stF hn hR ho hk hh hnh hl hnl hW (fun k hk2 hp hj => hQ _ (Or.inl ⟨k, hk2, Classical.not_not.mp hp, hj, rfl⟩)) (fun hp => ?_) 11 0 (by omega) (fun j hj => absurd hj (Nat.not_lt_zero _))
  refine a_iconst (v := -1) dM_settles_37 (by decide) ?_
  exact a_iret dM_settles_38 rfl (hQ _ (Or.inr ⟨hp, rfl⟩))
