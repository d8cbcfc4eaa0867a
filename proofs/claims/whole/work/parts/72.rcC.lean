def afNS (I : mI) (o : Nat) (k : Nat) (s : Int32) : Int32 := (s ||| ((I (o + 3) k) <<< ((nI (2 * k)) &&& 31)))
def afN (I : mI) (o : Nat) (s0 : Int32) : Nat → Int32
  | 0 => s0
  | k + 1 => afNS I o k (afN I o s0 k)
theorem l_afN {S : Nat × (Nat → Int32)} {d n : Nat} {I : mI} {J : mJ} {R : mR} (hn : 122 ≤ n) (hR : m_fin R) {o nh nl : Nat} (ho : o ∈ m_offs) (hr : offR R o) (hon : o + 8 < n) (hh : I o 0 = nI nh) (hnh : nh ≤ 6) (hl : I o 1 = nI nl) (hnl : nl ≤ 10) (hW : WFc I o nl) (hH : WFh (I (o + 2)) nl)  {s0 : Int32} {Q : Option Value → mI → mJ → mR → Prop}  (hx : AW S d YRacks_atFirst n n Q 31 [(2, .int (nI nl)), (1, .int (afN I o s0 nl)), (0, .ref o)] [] I J R n) : ∀ m k, k + m = nl → ∀ s : Int32, afN I o s0 k = s → AW S d YRacks_atFirst n n Q 4 [(2, .int (nI k)), (1, .int s), (0, .ref o)] [] I J R n := by
  intro m
  induction m with
  | zero =>
    intro k hk9 s es
    rw [show k = nl by omega] at es ⊢
    subst es
    refine a_iload_n 0 dRacks_atFirst_4 rfl rfl ?_
    refine a_aload_n 2 dRacks_atFirst_5 rfl rfl ?_
    refine a_geti dRacks_atFirst_6 fl6_9 rfl (of_l0 ho) (by omega) ?_
    rw [show I o 1 = (nI nl) from hl]
    refine a_icmp_geN (tgt := 31) dRacks_atFirst_9 (by decide) (by omega) (by omega) (fun _ => ?_) (fun c => False.elim (by omega))
    exact hx
  | succ m ih =>
    intro k hk9 s es
    refine a_iload_n 0 dRacks_atFirst_4 rfl rfl ?_
    refine a_aload_n 2 dRacks_atFirst_5 rfl rfl ?_
    refine a_geti dRacks_atFirst_6 fl6_9 rfl (of_l0 ho) (by omega) ?_
    rw [show I o 1 = (nI nl) from hl]
    refine a_icmp_geN (tgt := 31) dRacks_atFirst_9 (by decide) (by omega) (by omega) (fun c => False.elim (by omega)) (fun _ => ?_)
    refine a_iload_n 1 dRacks_atFirst_12 rfl rfl ?_
    refine a_aload_n 2 dRacks_atFirst_13 rfl rfl ?_
    refine a_geta (r := (o + 3)) dRacks_atFirst_14 fl6_15 rfl (of_l0 ho) (by omega) (hr 2 (by decide)) ?_
    refine a_iload_n 0 dRacks_atFirst_17 rfl rfl ?_
    refine a_ialdN (a := k) dRacks_atFirst_18 (of_l3 ho) (by omega) (by omega) (by decide) ?_
    rw [show I (o + 3) k = I (o + 3) k from rfl]
    refine a_iconstN (a := 2) dRacks_atFirst_19 (by decide) ?_
    refine a_iload_n 0 dRacks_atFirst_20 rfl rfl ?_
    refine a_imulN (a := 2) (b := k) dRacks_atFirst_21 ?_
    refine a_ishl dRacks_atFirst_22 ?_
    refine a_ior dRacks_atFirst_23 ?_
    refine a_istore_n (lv' := [(1, .int (s ||| ((I (o + 3) k) <<< ((nI (2 * k)) &&& 31)))), (2, .int (nI k)), (0, .ref o)]) dRacks_atFirst_24 rfl (by decide) rfl ?_
    refine a_iincN (lv' := [(2, .int (nI (k + 1))), (1, .int (s ||| ((I (o + 3) k) <<< ((nI (2 * k)) &&& 31)))), (0, .ref o)]) (j := 1) dRacks_atFirst_25 rfl (by decide) rfl ?_
    refine a_goto (tgt := 4) dRacks_atFirst_28 (by decide) ?_
    have ez9 : afN I o s0 (k + 1) = (s ||| ((I (o + 3) k) <<< ((nI (2 * k)) &&& 31))) := by
      show afNS I o k (afN I o s0 k) = _
      rw [es]
      unfold afNS
      rfl
    exact ih (k + 1) (by omega) (s ||| ((I (o + 3) k) <<< ((nI (2 * k)) &&& 31))) ez9
abbrev af0 (I : mI) (o nl : Nat) : Int32 := afN I o (nI 0) nl
theorem c_Racks_atFirst {S : Nat × (Nat → Int32)} {d n : Nat} {I : mI} {J : mJ} {R : mR} (hn : 122 ≤ n) (hR : m_fin R) {o nh nl : Nat} (ho : o ∈ m_offs) (hr : offR R o) (hon : o + 8 < n) (hh : I o 0 = nI nh) (hnh : nh ≤ 6) (hl : I o 1 = nI nl) (hnl : nl ≤ 10) (hW : WFc I o nl) (hH : WFh (I (o + 2)) nl)  : RUN S d YRacks_atFirst [.ref o] I J R n (some (.int (af0 I o nl))) I J R n := by
  show AW S _ YRacks_atFirst n n _ 0 [(0, .ref o)] [] I J R n
  refine a_iconstN (a := 0) dRacks_atFirst_0 (by decide) ?_
  refine a_istore_n (lv' := [(1, .int (nI 0)), (0, .ref o)]) dRacks_atFirst_1 rfl (by decide) rfl ?_
  refine a_iconstN (a := 0) dRacks_atFirst_2 (by decide) ?_
  refine a_istore_n (lv' := [(2, .int (nI 0)), (1, .int (nI 0)), (0, .ref o)]) dRacks_atFirst_3 rfl (by decide) rfl ?_
  refine l_afN (s0 := (nI 0)) hn hR ho hr hon hh hnh hl hnl hW hH ?_ nl 0 (by omega) _ rfl
  refine a_iload_n 1 dRacks_atFirst_31 rfl rfl ?_
  exact a_iret dRacks_atFirst_32 rfl ⟨rfl, rfl, rfl, rfl⟩
def brNS (I : mI) (o : Nat) (r : Int32) (k : Nat) (s : Int32) : Int32 := (if (I (o + 6) k) = (-1) then (s ||| (((r >>> ((nI (2 * k)) &&& 31)) &&& (nI 3)) <<< ((nI (2 * k)) &&& 31))) else (s ||| ((((r >>> (((nI 2) * (I (o + 6) k)) &&& 31)) + (I (o + 7) k)) &&& (nI 3)) <<< ((nI (2 * k)) &&& 31))))
def brN (I : mI) (o : Nat) (r : Int32) (s0 : Int32) : Nat → Int32
  | 0 => s0
  | k + 1 => brNS I o r k (brN I o r s0 k)
theorem l_brN {S : Nat × (Nat → Int32)} {d n : Nat} {I : mI} {J : mJ} {R : mR} (hn : 122 ≤ n) (hR : m_fin R) {o nh nl : Nat} (ho : o ∈ m_offs) (hr : offR R o) (hon : o + 8 < n) (hh : I o 0 = nI nh) (hnh : nh ≤ 6) (hl : I o 1 = nI nl) (hnl : nl ≤ 10) (hW : WFc I o nl) (hH : WFh (I (o + 2)) nl) {r : Int32}  {s0 : Int32} {Q : Option Value → mI → mJ → mR → Prop}  (hx : AW S d YRacks_behindRound n n Q 66 [(3, .int (nI nl)), (2, .int (brN I o r s0 nl)), (0, .ref o), (1, .int r)] [] I J R n) : ∀ m k, k + m = nl → ∀ s : Int32, brN I o r s0 k = s → AW S d YRacks_behindRound n n Q 4 [(3, .int (nI k)), (2, .int s), (0, .ref o), (1, .int r)] [] I J R n := by
  intro m
  induction m with
  | zero =>
    intro k hk9 s es
    rw [show k = nl by omega] at es ⊢
    subst es
    refine a_iload_n 0 dRacks_behindRound_4 rfl rfl ?_
    refine a_aload_n 2 dRacks_behindRound_5 rfl rfl ?_
    refine a_geti dRacks_behindRound_6 fl6_9 rfl (of_l0 ho) (by omega) ?_
    rw [show I o 1 = (nI nl) from hl]
    refine a_icmp_geN (tgt := 66) dRacks_behindRound_9 (by decide) (by omega) (by omega) (fun _ => ?_) (fun c => False.elim (by omega))
    exact hx
  | succ m ih =>
    intro k hk9 s es
    refine a_iload_n 0 dRacks_behindRound_4 rfl rfl ?_
    refine a_aload_n 2 dRacks_behindRound_5 rfl rfl ?_
    refine a_geti dRacks_behindRound_6 fl6_9 rfl (of_l0 ho) (by omega) ?_
    rw [show I o 1 = (nI nl) from hl]
    refine a_icmp_geN (tgt := 66) dRacks_behindRound_9 (by decide) (by omega) (by omega) (fun c => False.elim (by omega)) (fun _ => ?_)
    refine a_aload_n 2 dRacks_behindRound_12 rfl rfl ?_
    refine a_geta (r := (o + 6)) dRacks_behindRound_13 fl6_19 rfl (of_l0 ho) (by omega) (hr 5 (by decide)) ?_
    refine a_iload_n 0 dRacks_behindRound_16 rfl rfl ?_
    refine a_ialdN (a := k) dRacks_behindRound_17 (of_l6 ho) (by omega) (by omega) (by decide) ?_
    rw [show I (o + 6) k = I (o + 6) k from rfl]
    refine a_istore (lv' := [(4, .int (I (o + 6) k)), (3, .int (nI k)), (2, .int s), (0, .ref o), (1, .int r)]) dRacks_behindRound_18 (by decide) rfl ?_
    refine a_iload 0 dRacks_behindRound_20 rfl ?_
    refine a_iconst (v := -1) dRacks_behindRound_22 (by decide) ?_
    refine a_icmp_ne (tgt := 34) dRacks_behindRound_23 (by decide) (fun c23 => ?_) (fun c23 => ?_)
    · refine a_iload_n 4 dRacks_behindRound_34 rfl rfl ?_
      refine a_iconstN (a := 2) dRacks_behindRound_35 (by decide) ?_
      refine a_iload 0 dRacks_behindRound_36 rfl ?_
      refine a_imul dRacks_behindRound_38 ?_
      refine a_ishr dRacks_behindRound_39 ?_
      refine a_aload_n 3 dRacks_behindRound_40 rfl rfl ?_
      refine a_geta (r := (o + 7)) dRacks_behindRound_41 fl6_22 rfl (of_l0 ho) (by omega) (hr 6 (by decide)) ?_
      refine a_iload_n 1 dRacks_behindRound_44 rfl rfl ?_
      refine a_ialdN (a := k) dRacks_behindRound_45 (of_l7 ho) (by omega) (by omega) (by decide) ?_
      rw [show I (o + 7) k = I (o + 7) k from rfl]
      refine a_iadd dRacks_behindRound_46 ?_
      refine a_istore (lv' := [(5, .int ((r >>> (((nI 2) * (I (o + 6) k)) &&& 31)) + (I (o + 7) k))), (4, .int (I (o + 6) k)), (3, .int (nI k)), (2, .int s), (0, .ref o), (1, .int r)]) dRacks_behindRound_47 (by decide) rfl ?_
      refine a_iload_n 3 dRacks_behindRound_49 rfl rfl ?_
      refine a_iload 0 dRacks_behindRound_50 rfl ?_
      refine a_iconstN (a := 3) dRacks_behindRound_52 (by decide) ?_
      refine a_iand dRacks_behindRound_53 ?_
      refine a_iconstN (a := 2) dRacks_behindRound_54 (by decide) ?_
      refine a_iload_n 2 dRacks_behindRound_55 rfl rfl ?_
      refine a_imulN (a := 2) (b := k) dRacks_behindRound_56 ?_
      refine a_ishl dRacks_behindRound_57 ?_
      refine a_ior dRacks_behindRound_58 ?_
      refine a_istore_n (lv' := [(2, .int (s ||| ((((r >>> (((nI 2) * (I (o + 6) k)) &&& 31)) + (I (o + 7) k)) &&& (nI 3)) <<< ((nI (2 * k)) &&& 31)))), (5, .int ((r >>> (((nI 2) * (I (o + 6) k)) &&& 31)) + (I (o + 7) k))), (4, .int (I (o + 6) k)), (3, .int (nI k)), (0, .ref o), (1, .int r)]) dRacks_behindRound_59 rfl (by decide) rfl ?_
      refine a_iincN (lv' := [(3, .int (nI (k + 1))), (2, .int (s ||| ((((r >>> (((nI 2) * (I (o + 6) k)) &&& 31)) + (I (o + 7) k)) &&& (nI 3)) <<< ((nI (2 * k)) &&& 31)))), (5, .int ((r >>> (((nI 2) * (I (o + 6) k)) &&& 31)) + (I (o + 7) k))), (4, .int (I (o + 6) k)), (0, .ref o), (1, .int r)]) (j := 3) dRacks_behindRound_60 rfl (by decide) rfl ?_
      refine a_goto (tgt := 4) dRacks_behindRound_63 (by decide) ?_
      have ez9 : brN I o r s0 (k + 1) = (s ||| ((((r >>> (((nI 2) * (I (o + 6) k)) &&& 31)) + (I (o + 7) k)) &&& (nI 3)) <<< ((nI (2 * k)) &&& 31))) := by
        show brNS I o r k (brN I o r s0 k) = _
        rw [es]
        unfold brNS
        rw [if_neg c23]
      refine a_locs (lv' := [(3, .int (nI (k + 1))), (2, .int (s ||| ((((r >>> (((nI 2) * (I (o + 6) k)) &&& 31)) + (I (o + 7) k)) &&& (nI 3)) <<< ((nI (2 * k)) &&& 31)))), (0, .ref o), (1, .int r)]) [0, 1, 4, 5] rfl ?_
      exact ih (k + 1) (by omega) (s ||| ((((r >>> (((nI 2) * (I (o + 6) k)) &&& 31)) + (I (o + 7) k)) &&& (nI 3)) <<< ((nI (2 * k)) &&& 31))) ez9
    · refine a_iload_n 4 dRacks_behindRound_26 rfl rfl ?_
      refine a_iconstN (a := 2) dRacks_behindRound_27 (by decide) ?_
      refine a_iload_n 1 dRacks_behindRound_28 rfl rfl ?_
      refine a_imulN (a := 2) (b := k) dRacks_behindRound_29 ?_
      refine a_ishr dRacks_behindRound_30 ?_
      refine a_goto (tgt := 47) dRacks_behindRound_31 (by decide) ?_
      refine a_istore (lv' := [(5, .int (r >>> ((nI (2 * k)) &&& 31))), (4, .int (I (o + 6) k)), (3, .int (nI k)), (2, .int s), (0, .ref o), (1, .int r)]) dRacks_behindRound_47 (by decide) rfl ?_
      refine a_iload_n 3 dRacks_behindRound_49 rfl rfl ?_
      refine a_iload 0 dRacks_behindRound_50 rfl ?_
      refine a_iconstN (a := 3) dRacks_behindRound_52 (by decide) ?_
      refine a_iand dRacks_behindRound_53 ?_
      refine a_iconstN (a := 2) dRacks_behindRound_54 (by decide) ?_
      refine a_iload_n 2 dRacks_behindRound_55 rfl rfl ?_
      refine a_imulN (a := 2) (b := k) dRacks_behindRound_56 ?_
      refine a_ishl dRacks_behindRound_57 ?_
      refine a_ior dRacks_behindRound_58 ?_
      refine a_istore_n (lv' := [(2, .int (s ||| (((r >>> ((nI (2 * k)) &&& 31)) &&& (nI 3)) <<< ((nI (2 * k)) &&& 31)))), (5, .int (r >>> ((nI (2 * k)) &&& 31))), (4, .int (I (o + 6) k)), (3, .int (nI k)), (0, .ref o), (1, .int r)]) dRacks_behindRound_59 rfl (by decide) rfl ?_
      refine a_iincN (lv' := [(3, .int (nI (k + 1))), (2, .int (s ||| (((r >>> ((nI (2 * k)) &&& 31)) &&& (nI 3)) <<< ((nI (2 * k)) &&& 31)))), (5, .int (r >>> ((nI (2 * k)) &&& 31))), (4, .int (I (o + 6) k)), (0, .ref o), (1, .int r)]) (j := 3) dRacks_behindRound_60 rfl (by decide) rfl ?_
      refine a_goto (tgt := 4) dRacks_behindRound_63 (by decide) ?_
      have ez9 : brN I o r s0 (k + 1) = (s ||| (((r >>> ((nI (2 * k)) &&& 31)) &&& (nI 3)) <<< ((nI (2 * k)) &&& 31))) := by
        show brNS I o r k (brN I o r s0 k) = _
        rw [es]
        unfold brNS
        rw [if_pos c23]
      refine a_locs (lv' := [(3, .int (nI (k + 1))), (2, .int (s ||| (((r >>> ((nI (2 * k)) &&& 31)) &&& (nI 3)) <<< ((nI (2 * k)) &&& 31)))), (0, .ref o), (1, .int r)]) [0, 1, 4, 5] rfl ?_
      exact ih (k + 1) (by omega) (s ||| (((r >>> ((nI (2 * k)) &&& 31)) &&& (nI 3)) <<< ((nI (2 * k)) &&& 31))) ez9
abbrev brR (I : mI) (o nl : Nat) (r : Int32) : Int32 := brN I o r (nI 0) nl
theorem c_Racks_behindRound {S : Nat × (Nat → Int32)} {d n : Nat} {I : mI} {J : mJ} {R : mR} (hn : 122 ≤ n) (hR : m_fin R) {o nh nl : Nat} (ho : o ∈ m_offs) (hr : offR R o) (hon : o + 8 < n) (hh : I o 0 = nI nh) (hnh : nh ≤ 6) (hl : I o 1 = nI nl) (hnl : nl ≤ 10) (hW : WFc I o nl) (hH : WFh (I (o + 2)) nl) {r : Int32}  : RUN S d YRacks_behindRound [.ref o, .int r] I J R n (some (.int (brR I o nl r))) I J R n := by
  show AW S _ YRacks_behindRound n n _ 0 [(0, .ref o), (1, .int r)] [] I J R n
  refine a_iconstN (a := 0) dRacks_behindRound_0 (by decide) ?_
  refine a_istore_n (lv' := [(2, .int (nI 0)), (0, .ref o), (1, .int r)]) dRacks_behindRound_1 rfl (by decide) rfl ?_
  refine a_iconstN (a := 0) dRacks_behindRound_2 (by decide) ?_
  refine a_istore_n (lv' := [(3, .int (nI 0)), (2, .int (nI 0)), (0, .ref o), (1, .int r)]) dRacks_behindRound_3 rfl (by decide) rfl ?_
  refine l_brN (s0 := (nI 0)) hn hR ho hr hon hh hnh hl hnl hW hH ?_ nl 0 (by omega) _ rfl
  refine a_iload_n 1 dRacks_behindRound_66 rfl rfl ?_
  exact a_iret dRacks_behindRound_67 rfl ⟨rfl, rfl, rfl, rfl⟩
theorem c_brX {S : Nat × (Nat → Int32)} {d n : Nat} {I : mI} {J : mJ} {R : mR} {f : Nat → Int32} (hn : 122 ≤ n) (hR : m_fin R) {o nh nl : Nat} (ho : o ∈ m_offs) (hr : offR R o) (hon : o + 8 < n) (hh : I o 0 = nI nh) (hnh : nh ≤ 6) (hl : I o 1 = nI nl) (hnl : nl ≤ 10) (hW : WFc I o nl) (hH : WFh (I (o + 2)) nl) {r : Int32} : RUN S d YRacks_behindRound [.ref o, .int r] (m_row I 80 f) J R n (some (.int (brR I o nl r))) (m_row I 80 f) J R n := by
  have h := c_Racks_behindRound (S := S) (d := d) (J := J) (I := m_row I 80 f) (r := r) hn hR ho hr hon (by rw [off_row0 ho (by decide)]; exact hh) hnh (by rw [off_row0 ho (by decide)]; exact hl) hnl (WFc_row ho (by decide) hW) (by rw [off_row ho (by decide) (by decide)]; exact hH)
  have e : ∀ k, brN (m_row I 80 f) o r (nI 0) k = brN I o r (nI 0) k := by
    intro k
    induction k with
    | zero => rfl
    | succ k ih =>
      show brNS (m_row I 80 f) o r k (brN (m_row I 80 f) o r (nI 0) k) = brNS I o r k (brN I o r (nI 0) k)
      rw [ih]
      unfold brNS
      rw [off_row ho (by decide) (by decide), off_row ho (by decide) (by decide)]
  unfold brR at h
  rw [e] at h
  exact h
/-- racks behind rounds -/
def rsC (I : mI) (o nl : Nat) (r : Int32) : Nat → Int32
  | 0 => r
  | k + 1 => brR I o nl (rsC I o nl r k)
theorem l_rsL {S : Nat × (Nat → Int32)} {d n : Nat} {I : mI} {J : mJ} {R : mR} (hn : 122 ≤ n) (hR : m_fin R) {o nh nl : Nat} (ho : o ∈ m_offs) (hr : offR R o) (hon : o + 8 < n) (hh : I o 0 = nI nh) (hnh : nh ≤ 6) (hl : I o 1 = nI nl) (hnl : nl ≤ 10) (hW : WFc I o nl) (hH : WFh (I (o + 2)) nl) {N : Nat} (hN : N < 2 ^ 31) {r : Int32}   {Q : Option Value → mI → mJ → mR → Prop}  (hx : AW S (d + 1) YRacks_behindRounds n n Q 24 [(3, .int (nI N)), (2, .int (rsC I o nl r N)), (0, .ref o), (1, .int (nI N))] [] I J R n) : ∀ m k, k + m = N → ∀ s : Int32, rsC I o nl r k = s → AW S (d + 1) YRacks_behindRounds n n Q 7 [(3, .int (nI k)), (2, .int s), (0, .ref o), (1, .int (nI N))] [] I J R n := by
  intro m
  induction m with
  | zero =>
    intro k hk9 s es
    rw [show k = N by omega] at es ⊢
    subst es
    refine a_iload_n 0 dRacks_behindRounds_7 rfl rfl ?_
    refine a_iload_n 3 dRacks_behindRounds_8 rfl rfl ?_
    refine a_icmp_geN (tgt := 24) dRacks_behindRounds_9 (by decide) (by omega) (by omega) (fun _ => ?_) (fun c => False.elim (by omega))
    exact hx
  | succ m ih =>
    intro k hk9 s es
    refine a_iload_n 0 dRacks_behindRounds_7 rfl rfl ?_
    refine a_iload_n 3 dRacks_behindRounds_8 rfl rfl ?_
    refine a_icmp_geN (tgt := 24) dRacks_behindRounds_9 (by decide) (by omega) (by omega) (fun c => False.elim (by omega)) (fun _ => ?_)
    refine a_aload_n 2 dRacks_behindRounds_12 rfl rfl ?_
    refine a_iload_n 1 dRacks_behindRounds_13 rfl rfl ?_
    refine a_callS (Q' := m_res (some (.int (brR I o nl s))) I J R) (as := [.ref o, .int s]) (st := []) dRacks_behindRounds_14 ml6_31 rfl (Nat.le_of_ble_eq_true rfl) (Nat.le_of_ble_eq_true rfl) rfl (Nat.le_refl _) (Nat.le_refl _) (c_Racks_behindRound hn hR ho hr hon hh hnh hl hnl hW hH) (m_go ?_)
    show AW _ _ _ _ _ _ _ _ [.int (brR I o nl s)] _ _ _ _
    refine a_istore_n (lv' := [(2, .int (brR I o nl s)), (3, .int (nI k)), (0, .ref o), (1, .int (nI N))]) dRacks_behindRounds_17 rfl (by decide) rfl ?_
    refine a_iincN (lv' := [(3, .int (nI (k + 1))), (2, .int (brR I o nl s)), (0, .ref o), (1, .int (nI N))]) (j := 1) dRacks_behindRounds_18 rfl (by decide) rfl ?_
    refine a_goto (tgt := 7) dRacks_behindRounds_21 (by decide) ?_
    have ez9 : rsC I o nl r (k + 1) = (brR I o nl s) := by
      unfold rsC
      rw [es]
    exact ih (k + 1) (by omega) (brR I o nl s) ez9
theorem c_Racks_behindRounds {S : Nat × (Nat → Int32)} {d n : Nat} {I : mI} {J : mJ} {R : mR} (hn : 122 ≤ n) (hR : m_fin R) {o nh nl : Nat} (ho : o ∈ m_offs) (hr : offR R o) (hon : o + 8 < n) (hh : I o 0 = nI nh) (hnh : nh ≤ 6) (hl : I o 1 = nI nl) (hnl : nl ≤ 10) (hW : WFc I o nl) (hH : WFh (I (o + 2)) nl) {N : Nat} (hN : N < 2 ^ 31)  : RUN S (d + 1) YRacks_behindRounds [.ref o, .int (nI N)] I J R n (some (.int (rsC I o nl (af0 I o nl) N))) I J R n := by
  show AW S _ YRacks_behindRounds n n _ 0 [(0, .ref o), (1, .int (nI N))] [] I J R n
  refine a_aload_n 0 dRacks_behindRounds_0 rfl rfl ?_
  refine a_callS (Q' := m_res (some (.int (af0 I o nl))) I J R) (as := [.ref o]) (st := []) dRacks_behindRounds_1 ml6_25 rfl (Nat.le_of_ble_eq_true rfl) (Nat.le_of_ble_eq_true rfl) rfl (Nat.le_refl _) (Nat.le_refl _) (c_Racks_atFirst hn hR ho hr hon hh hnh hl hnl hW hH) (m_go ?_)
  show AW _ _ _ _ _ _ _ _ [.int (af0 I o nl)] _ _ _ _
  refine a_istore_n (lv' := [(2, .int (af0 I o nl)), (0, .ref o), (1, .int (nI N))]) dRacks_behindRounds_4 rfl (by decide) rfl ?_
  refine a_iconstN (a := 0) dRacks_behindRounds_5 (by decide) ?_
  refine a_istore_n (lv' := [(3, .int (nI 0)), (2, .int (af0 I o nl)), (0, .ref o), (1, .int (nI N))]) dRacks_behindRounds_6 rfl (by decide) rfl ?_
  refine l_rsL  hn hR ho hr hon hh hnh hl hnl hW hH hN (r := af0 I o nl) ?_ N 0 (by omega) _ rfl
  refine a_iload_n 1 dRacks_behindRounds_24 rfl rfl ?_
  exact a_iret dRacks_behindRounds_25 rfl ⟨rfl, rfl, rfl, rfl⟩
theorem c_Racks_rackOf {S : Nat × (Nat → Int32)} {d n : Nat} {I : mI} {J : mJ} {R : mR} (hn : 122 ≤ n) (hR : m_fin R) {o nh nl : Nat} (ho : o ∈ m_offs) (hr : offR R o) (hon : o + 8 < n) (hh : I o 0 = nI nh) (hnh : nh ≤ 6) (hl : I o 1 = nI nl) (hnl : nl ≤ 10) (hW : WFc I o nl) (hH : WFh (I (o + 2)) nl) {x : Int32} {N : Nat} (hN : N < 2 ^ 31)  : RUN S (d + 2) YRacks_rackOf [.ref 80, .ref o, .int x, .int (nI N)] I J R n (some (.int (rkO (rsC I o nl (af0 I o nl) N) x))) I J R n := by
  show AW S _ YRacks_rackOf n n _ 0 [(0, .ref 80), (1, .ref o), (2, .int x), (3, .int (nI N))] [] I J R n
  refine a_aload_n 1 dRacks_rackOf_0 rfl rfl ?_
  refine a_iload_n 3 dRacks_rackOf_1 rfl rfl ?_
  refine a_callS (Q' := m_res (some (.int (rsC I o nl (af0 I o nl) N))) I J R) (as := [.ref o, .int (nI N)]) (st := []) dRacks_rackOf_2 ml6_35 rfl (Nat.le_of_ble_eq_true rfl) (Nat.le_of_ble_eq_true rfl) rfl (Nat.le_refl _) (Nat.le_refl _) (c_Racks_behindRounds hn hR ho hr hon hh hnh hl hnl hW hH hN) (m_go ?_)
  show AW _ _ _ _ _ _ _ _ [.int (rsC I o nl (af0 I o nl) N)] _ _ _ _
  refine a_iconstN (a := 2) dRacks_rackOf_5 (by decide) ?_
  refine a_iload_n 2 dRacks_rackOf_6 rfl rfl ?_
  refine a_imul dRacks_rackOf_7 ?_
  refine a_ishr dRacks_rackOf_8 ?_
  refine a_iconstN (a := 3) dRacks_rackOf_9 (by decide) ?_
  refine a_iand dRacks_rackOf_10 ?_
  exact a_iret dRacks_rackOf_11 rfl ⟨rfl, rfl, rfl, rfl⟩
theorem l_sbF {S : Nat × (Nat → Int32)} {d n : Nat} {I : mI} {J : mJ} {R : mR} (hn : 122 ≤ n) (hR : m_fin R) {o nh nl : Nat} (ho : o ∈ m_offs) (hr : offR R o) (hon : o + 8 < n) (hh : I o 0 = nI nh) (hnh : nh ≤ 6) (hl : I o 1 = nI nl) (hnl : nl ≤ 10) (hW : WFc I o nl) (hH : WFh (I (o + 2)) nl)  {Q : Option Value → mI → mJ → mR → Prop} (h0 : ∀ k, k < 11 → ¬ (¬ brR I o nl (rsC I o nl (af0 I o nl) k) = (rsC I o nl (af0 I o nl) k)) → (∀ j, j < k → ¬ brR I o nl (rsC I o nl (af0 I o nl) j) = (rsC I o nl (af0 I o nl) j)) → Q (some (.int (nI k))) I J R) (hx : (∀ k, k < 11 → ¬ brR I o nl (rsC I o nl (af0 I o nl) k) = (rsC I o nl (af0 I o nl) k)) → AW S (d + 1) YRacks_settledBehind n n Q 37 [(3, .int (nI 11)), (2, .int (rsC I o nl (af0 I o nl) 11)), (0, .ref 80), (1, .ref o)] [] I J R n) : ∀ m k, k + m = 11 → (∀ j, j < k → ¬ brR I o nl (rsC I o nl (af0 I o nl) j) = (rsC I o nl (af0 I o nl) j)) → AW S (d + 1) YRacks_settledBehind n n Q 7 [(3, .int (nI k)), (2, .int (rsC I o nl (af0 I o nl) k)), (0, .ref 80), (1, .ref o)] [] I J R n := by
  intro m
  induction m with
  | zero =>
    intro k hk9 hp
    rw [show k = 11 by omega] at hp ⊢
    refine a_iload_n 0 dRacks_settledBehind_7 rfl rfl ?_
    refine a_bipushN (a := 10) dRacks_settledBehind_8 (by decide) ?_
    refine a_icmp_gtN (tgt := 37) dRacks_settledBehind_10 (by decide) (by omega) (by omega) (fun _ => ?_) (fun c => False.elim (by omega))
    exact hx hp
  | succ m ih =>
    intro k hk9 hp
    refine a_iload_n 0 dRacks_settledBehind_7 rfl rfl ?_
    refine a_bipushN (a := 10) dRacks_settledBehind_8 (by decide) ?_
    refine a_icmp_gtN (tgt := 37) dRacks_settledBehind_10 (by decide) (by omega) (by omega) (fun c => False.elim (by omega)) (fun _ => ?_)
    refine a_aload_n 3 dRacks_settledBehind_13 rfl rfl ?_
    refine a_iload_n 1 dRacks_settledBehind_14 rfl rfl ?_
    refine a_callS (Q' := m_res (some (.int (brR I o nl (rsC I o nl (af0 I o nl) k)))) I J R) (as := [.ref o, .int (rsC I o nl (af0 I o nl) k)]) (st := []) dRacks_settledBehind_15 ml6_31 rfl (Nat.le_of_ble_eq_true rfl) (Nat.le_of_ble_eq_true rfl) rfl (Nat.le_refl _) (Nat.le_refl _) (c_Racks_behindRound hn hR ho hr hon hh hnh hl hnl hW hH) (m_go ?_)
    show AW _ _ _ _ _ _ _ _ [.int (brR I o nl (rsC I o nl (af0 I o nl) k))] _ _ _ _
    refine a_istore (lv' := [(4, .int (brR I o nl (rsC I o nl (af0 I o nl) k))), (3, .int (nI k)), (2, .int (rsC I o nl (af0 I o nl) k)), (0, .ref 80), (1, .ref o)]) dRacks_settledBehind_18 (by decide) rfl ?_
    refine a_iload 0 dRacks_settledBehind_20 rfl ?_
    refine a_iload_n 2 dRacks_settledBehind_22 rfl rfl ?_
    refine a_icmp_ne (tgt := 28) dRacks_settledBehind_23 (by decide) (fun c23 => ?_) (fun c23 => ?_)
    · refine a_iload 0 dRacks_settledBehind_28 rfl ?_
      refine a_istore_n (lv' := [(2, .int (brR I o nl (rsC I o nl (af0 I o nl) k))), (4, .int (brR I o nl (rsC I o nl (af0 I o nl) k))), (3, .int (nI k)), (0, .ref 80), (1, .ref o)]) dRacks_settledBehind_30 rfl (by decide) rfl ?_
      refine a_iincN (lv' := [(3, .int (nI (k + 1))), (2, .int (brR I o nl (rsC I o nl (af0 I o nl) k))), (4, .int (brR I o nl (rsC I o nl (af0 I o nl) k))), (0, .ref 80), (1, .ref o)]) (j := 2) dRacks_settledBehind_31 rfl (by decide) rfl ?_
      refine a_goto (tgt := 7) dRacks_settledBehind_34 (by decide) ?_
      refine a_locs (lv' := [(3, .int (nI (k + 1))), (2, .int (brR I o nl (rsC I o nl (af0 I o nl) k))), (0, .ref 80), (1, .ref o)]) [0, 1, 3, 4] rfl ?_
      exact ih (k + 1) (by omega) (fun j hj => by
        rcases Nat.lt_or_eq_of_le (Nat.le_of_lt_succ hj) with h1 | h1
        · exact hp j h1
        · subst h1; exact c23)
    · refine a_iload_n 1 dRacks_settledBehind_26 rfl rfl ?_
      exact a_iret dRacks_settledBehind_27 rfl (h0 k (by omega) (fun q => q c23) hp)
/-- behind how many rounds racks settle, of the class -/
def seC (I : mI) (o nl : Nat) (v : Int32) : Prop := (∃ k, k < 11 ∧ brR I o nl (rsC I o nl (af0 I o nl) k) = (rsC I o nl (af0 I o nl) k) ∧ (∀ j, j < k → ¬ brR I o nl (rsC I o nl (af0 I o nl) j) = (rsC I o nl (af0 I o nl) j)) ∧ v = nI k) ∨ ((∀ k, k < 11 → ¬ brR I o nl (rsC I o nl (af0 I o nl) k) = (rsC I o nl (af0 I o nl) k)) ∧ v = -1)
theorem b_settledBehind {S : Nat × (Nat → Int32)} {d n : Nat} {I : mI} {J : mJ} {R : mR} (hn : 122 ≤ n) (hR : m_fin R) {o nh nl : Nat} (ho : o ∈ m_offs) (hr : offR R o) (hon : o + 8 < n) (hh : I o 0 = nI nh) (hnh : nh ≤ 6) (hl : I o 1 = nI nl) (hnl : nl ≤ 10) (hW : WFc I o nl) (hH : WFh (I (o + 2)) nl)  {Q : Option Value → mI → mJ → mR → Prop} (hQ : ∀ v, seC I o nl v → Q (some (.int v)) I J R) : AW S (d + 1) YRacks_settledBehind n n Q 0 [(0, .ref 80), (1, .ref o)] [] I J R n := by
  refine a_aload_n 1 dRacks_settledBehind_0 rfl rfl ?_
  refine a_callS (Q' := m_res (some (.int (af0 I o nl))) I J R) (as := [.ref o]) (st := []) dRacks_settledBehind_1 ml6_25 rfl (Nat.le_of_ble_eq_true rfl) (Nat.le_of_ble_eq_true rfl) rfl (Nat.le_refl _) (Nat.le_refl _) (c_Racks_atFirst hn hR ho hr hon hh hnh hl hnl hW hH) (m_go ?_)
  show AW _ _ _ _ _ _ _ _ [.int (af0 I o nl)] _ _ _ _
  refine a_istore_n (lv' := [(2, .int (af0 I o nl)), (0, .ref 80), (1, .ref o)]) dRacks_settledBehind_4 rfl (by decide) rfl ?_
  refine a_iconstN (a := 0) dRacks_settledBehind_5 (by decide) ?_
  refine a_istore_n (lv' := [(3, .int (nI 0)), (2, .int (af0 I o nl)), (0, .ref 80), (1, .ref o)]) dRacks_settledBehind_6 rfl (by decide) rfl ?_
  refine a_locs (lv' := [(3, .int (nI 0)), (2, .int (af0 I o nl)), (0, .ref 80), (1, .ref o)]) [0, 1, 2, 3] rfl ?_
  refine l_sbF hn hR ho hr hon hh hnh hl hnl hW hH (fun k hk2 hp hj => hQ _ (Or.inl ⟨k, hk2, Classical.not_not.mp hp, hj, rfl⟩)) (fun hp => ?_) 11 0 (by omega) (fun j hj => absurd hj (Nat.not_lt_zero _))
  refine a_iconst (v := -1) dRacks_settledBehind_37 (by decide) ?_
  exact a_iret dRacks_settledBehind_38 rfl (hQ _ (Or.inr ⟨hp, rfl⟩))
def frNS (I : mI) (o nl : Nat) (f0 : Int32) (k : Nat) (s : Int32) : Int32 := (s ||| ((brR I o nl (rsC I o nl f0 k)) ^^^ f0))
def frN (I : mI) (o nl : Nat) (f0 : Int32) (s0 : Int32) : Nat → Int32
  | 0 => s0
  | k + 1 => frNS I o nl f0 k (frN I o nl f0 s0 k)
theorem l_frN {S : Nat × (Nat → Int32)} {d n : Nat} {I : mI} {J : mJ} {R : mR} (hn : 122 ≤ n) (hR : m_fin R) {o nh nl : Nat} (ho : o ∈ m_offs) (hr : offR R o) (hon : o + 8 < n) (hh : I o 0 = nI nh) (hnh : nh ≤ 6) (hl : I o 1 = nI nl) (hnl : nl ≤ 10) (hW : WFc I o nl) (hH : WFh (I (o + 2)) nl) {f : Nat → Int32} {f0 : Int32} {P : Nat} (hP : 0 < P) (hP2 : P ≤ 1000) (hrp : rsC I o nl f0 P = f0) (hn0 : ∀ j, 0 < j → j < P → ¬ rsC I o nl f0 j = f0)  {s0 : Int32} {Q : Option Value → mI → mJ → mR → Prop}  (hx : AW S (d + 2) YRacks_findRing n n Q 20 [(5, .int (nI ((P - 1) + 1))), (4, .int (rsC I o nl f0 (P - 1))), (3, .int (frN I o nl f0 s0 (P - 1))), (2, .int f0), (0, .ref 80), (1, .ref o)] [] (m_row I 80 (va_up f 0 (nI 0))) J R n) : ∀ m k, k + m = (P - 1) → ∀ s : Int32, frN I o nl f0 s0 k = s → AW S (d + 2) YRacks_findRing n n Q 20 [(5, .int (nI (k + 1))), (4, .int (rsC I o nl f0 k)), (3, .int s), (2, .int f0), (0, .ref 80), (1, .ref o)] [] (m_row I 80 (va_up f 0 (nI 0))) J R n := by
  intro m
  induction m with
  | zero =>
    intro k hk9 s es
    rw [show k = (P - 1) by omega] at es ⊢
    subst es
    exact hx
  | succ m ih =>
    intro k hk9 s es
    refine a_iload 0 dRacks_findRing_20 rfl ?_
    refine a_sipushN (a := 1000) dRacks_findRing_22 (by decide) ?_
    refine a_icmp_gtN (tgt := 68) dRacks_findRing_25 (by decide) (by omega) (by omega) (fun c => False.elim (by omega)) (fun _ => ?_)
    refine a_aload_n 4 dRacks_findRing_28 rfl rfl ?_
    refine a_geti dRacks_findRing_29 fl6_38 rfl ly_80 (by omega) ?_
    rw [show (m_row I 80 (va_up f 0 (nI 0))) 80 0 = (nI 0) from rfl]
    refine a_if_ne (tgt := 68) dRacks_findRing_32 (by decide) (fun c => False.elim (c rfl)) (fun _ => ?_)
    refine a_aload_n 5 dRacks_findRing_35 rfl rfl ?_
    refine a_iload 1 dRacks_findRing_36 rfl ?_
    refine a_callS (Q' := m_res (some (.int (brR I o nl (rsC I o nl f0 k)))) (m_row I 80 (va_up f 0 (nI 0))) J R) (as := [.ref o, .int (rsC I o nl f0 k)]) (st := []) dRacks_findRing_38 ml6_31 rfl (Nat.le_of_ble_eq_true rfl) (Nat.le_of_ble_eq_true rfl) rfl (Nat.le_refl _) (Nat.le_refl _) (c_brX hn hR ho hr hon hh hnh hl hnl hW hH) (m_go ?_)
    show AW _ _ _ _ _ _ _ _ [.int (brR I o nl (rsC I o nl f0 k))] _ _ _ _
    refine a_istore (lv' := [(4, .int (brR I o nl (rsC I o nl f0 k))), (5, .int (nI (k + 1))), (3, .int s), (2, .int f0), (0, .ref 80), (1, .ref o)]) dRacks_findRing_41 (by decide) rfl ?_
    refine a_iload_n 2 dRacks_findRing_43 rfl rfl ?_
    refine a_iload 0 dRacks_findRing_44 rfl ?_
    refine a_iload_n 3 dRacks_findRing_46 rfl rfl ?_
    refine a_ixor dRacks_findRing_47 ?_
    refine a_ior dRacks_findRing_48 ?_
    refine a_istore_n (lv' := [(3, .int (s ||| ((brR I o nl (rsC I o nl f0 k)) ^^^ f0))), (4, .int (brR I o nl (rsC I o nl f0 k))), (5, .int (nI (k + 1))), (2, .int f0), (0, .ref 80), (1, .ref o)]) dRacks_findRing_49 rfl (by decide) rfl ?_
    refine a_iload 1 dRacks_findRing_50 rfl ?_
    refine a_iload_n 3 dRacks_findRing_52 rfl rfl ?_
    refine a_icmp_ne (tgt := 62) dRacks_findRing_53 (by decide) (fun _ => ?_) (fun c => False.elim (hn0 (k + 1) (by omega) (by omega) c))
    refine a_iincN (lv' := [(5, .int (nI ((k + 1) + 1))), (3, .int (s ||| ((brR I o nl (rsC I o nl f0 k)) ^^^ f0))), (4, .int (brR I o nl (rsC I o nl f0 k))), (2, .int f0), (0, .ref 80), (1, .ref o)]) (j := 2) dRacks_findRing_62 rfl (by decide) rfl ?_
    refine a_goto (tgt := 20) dRacks_findRing_65 (by decide) ?_
    have ez9 : frN I o nl f0 s0 (k + 1) = (s ||| ((brR I o nl (rsC I o nl f0 k)) ^^^ f0)) := by
      show frNS I o nl f0 k (frN I o nl f0 s0 k) = _
      rw [es]
      unfold frNS
      rfl
    refine a_locs (lv' := [(5, .int (nI ((k + 1) + 1))), (4, .int (brR I o nl (rsC I o nl f0 k))), (3, .int (s ||| ((brR I o nl (rsC I o nl f0 k)) ^^^ f0))), (2, .int f0), (0, .ref 80), (1, .ref o)]) [0, 2, 1, 3, 4, 5] rfl ?_
    exact ih (k + 1) (by omega) (s ||| ((brR I o nl (rsC I o nl f0 k)) ^^^ f0)) ez9
/-- what changed in a ring of P rounds -/
abbrev frT (I : mI) (o nl : Nat) (f0 : Int32) (P : Nat) : Int32 := frN I o nl f0 (nI 0) (P - 1) ||| (brR I o nl (rsC I o nl f0 (P - 1)) ^^^ f0)
def fbCS (c : Int32) (k : Nat) (s : Int32) : Int32 := (if ((c >>> ((nI (2 * k)) &&& 31)) &&& (nI 3)) = 0 then s else (s ||| ((nI 1) <<< ((nI k) &&& 31))))
def fbC (c : Int32) (s0 : Int32) : Nat → Int32
  | 0 => s0
  | k + 1 => fbCS c k (fbC c s0 k)
theorem l_fbC {S : Nat × (Nat → Int32)} {d n : Nat} {I : mI} {J : mJ} {R : mR} (hn : 122 ≤ n) (hR : m_fin R) {o nh nl : Nat} (ho : o ∈ m_offs) (hr : offR R o) (hon : o + 8 < n) (hh : I o 0 = nI nh) (hnh : nh ≤ 6) (hl : I o 1 = nI nl) (hnl : nl ≤ 10) (hW : WFc I o nl) (hH : WFh (I (o + 2)) nl) {f : Nat → Int32} {c f0 x : Int32} {P : Nat}  {s0 : Int32} {Q : Option Value → mI → mJ → mR → Prop}  (hx : AW S (d + 2) YRacks_findRing n n Q 115 [(5, .int (nI nl)), (4, .int x), (3, .int c), (2, .int f0), (0, .ref 80), (1, .ref o)] [] (m_row I 80 (va_up (va_up f 0 (nI P)) 1 (fbC c s0 nl))) J R n) : ∀ m k, k + m = nl → ∀ s : Int32, fbC c s0 k = s → AW S (d + 2) YRacks_findRing n n Q 76 [(5, .int (nI k)), (4, .int x), (3, .int c), (2, .int f0), (0, .ref 80), (1, .ref o)] [] (m_row I 80 (va_up (va_up f 0 (nI P)) 1 s)) J R n := by
  intro m
  induction m with
  | zero =>
    intro k hk9 s es
    rw [show k = nl by omega] at es ⊢
    subst es
    refine a_iload 0 dRacks_findRing_76 rfl ?_
    refine a_aload_n 5 dRacks_findRing_78 rfl rfl ?_
    refine a_geti dRacks_findRing_79 fl6_9 rfl (of_l0 ho) (by omega) ?_
    rw [show (m_row I 80 (va_up (va_up f 0 (nI P)) 1 (fbC c s0 nl))) o 1 = (nI nl) from ((show (m_row I 80 (va_up (va_up f 0 (nI P)) 1 (fbC c s0 nl))) o 1 = I o 1 by rw [m_row_ne (oc_ne0 ho (by decide))]).trans hl)]
    refine a_icmp_geN (tgt := 115) dRacks_findRing_82 (by decide) (by omega) (by omega) (fun _ => ?_) (fun c => False.elim (by omega))
    exact hx
  | succ m ih =>
    intro k hk9 s es
    refine a_iload 0 dRacks_findRing_76 rfl ?_
    refine a_aload_n 5 dRacks_findRing_78 rfl rfl ?_
    refine a_geti dRacks_findRing_79 fl6_9 rfl (of_l0 ho) (by omega) ?_
    rw [show (m_row I 80 (va_up (va_up f 0 (nI P)) 1 s)) o 1 = (nI nl) from ((show (m_row I 80 (va_up (va_up f 0 (nI P)) 1 s)) o 1 = I o 1 by rw [m_row_ne (oc_ne0 ho (by decide))]).trans hl)]
    refine a_icmp_geN (tgt := 115) dRacks_findRing_82 (by decide) (by omega) (by omega) (fun c => False.elim (by omega)) (fun _ => ?_)
    refine a_iload_n 2 dRacks_findRing_85 rfl rfl ?_
    refine a_iconstN (a := 2) dRacks_findRing_86 (by decide) ?_
    refine a_iload 0 dRacks_findRing_87 rfl ?_
    refine a_imulN (a := 2) (b := k) dRacks_findRing_89 ?_
    refine a_ishr dRacks_findRing_90 ?_
    refine a_iconstN (a := 3) dRacks_findRing_91 (by decide) ?_
    refine a_iand dRacks_findRing_92 ?_
    refine a_if_eq (tgt := 109) dRacks_findRing_93 (by decide) (fun c93 => ?_) (fun c93 => ?_)
    · refine a_iincN (lv' := [(5, .int (nI (k + 1))), (4, .int x), (3, .int c), (2, .int f0), (0, .ref 80), (1, .ref o)]) (j := 0) dRacks_findRing_109 rfl (by decide) rfl ?_
      refine a_goto (tgt := 76) dRacks_findRing_112 (by decide) ?_
      have ez9 : fbC c s0 (k + 1) = s := by
        show fbCS c k (fbC c s0 k) = _
        rw [es]
        unfold fbCS
        rw [if_pos c93]
      exact ih (k + 1) (by omega) s ez9
    · refine a_aload_n 4 dRacks_findRing_96 rfl rfl ?_
      refine a_dup dRacks_findRing_97 rfl ?_
      refine a_geti dRacks_findRing_98 fl6_41 rfl ly_80 (by omega) ?_
      rw [show (m_row I 80 (va_up (va_up f 0 (nI P)) 1 s)) 80 1 = s from rfl]
      refine a_iconstN (a := 1) dRacks_findRing_101 (by decide) ?_
      refine a_iload 0 dRacks_findRing_102 rfl ?_
      refine a_ishl dRacks_findRing_104 ?_
      refine a_ior dRacks_findRing_105 ?_
      refine a_puti dRacks_findRing_106 fl6_41 rfl ly_80 (by omega) ?_
      rw [show m_up (m_row I 80 (va_up (va_up f 0 (nI P)) 1 s)) 80 1 (s ||| ((nI 1) <<< ((nI k) &&& 31))) = (m_row I 80 (va_up (va_up f 0 (nI P)) 1 (s ||| ((nI 1) <<< ((nI k) &&& 31))))) from (by rw [m_up_r, show va_up (va_up (va_up f 0 (nI P)) 1 s) 1 (s ||| ((nI 1) <<< ((nI k) &&& 31))) = (va_up (va_up f 0 (nI P)) 1 (s ||| ((nI 1) <<< ((nI k) &&& 31)))) from va_uu])]
      refine a_iincN (lv' := [(5, .int (nI (k + 1))), (4, .int x), (3, .int c), (2, .int f0), (0, .ref 80), (1, .ref o)]) (j := 0) dRacks_findRing_109 rfl (by decide) rfl ?_
      refine a_goto (tgt := 76) dRacks_findRing_112 (by decide) ?_
      have ez9 : fbC c s0 (k + 1) = (s ||| ((nI 1) <<< ((nI k) &&& 31))) := by
        show fbCS c k (fbC c s0 k) = _
        rw [es]
        unfold fbCS
        rw [if_neg c93]
      exact ih (k + 1) (by omega) (s ||| ((nI 1) <<< ((nI k) &&& 31))) ez9
theorem c_brsX {S : Nat × (Nat → Int32)} {d n : Nat} {I : mI} {J : mJ} {R : mR} {f : Nat → Int32} (hn : 122 ≤ n) (hR : m_fin R) {o nh nl : Nat} (ho : o ∈ m_offs) (hr : offR R o) (hon : o + 8 < n) (hh : I o 0 = nI nh) (hnh : nh ≤ 6) (hl : I o 1 = nI nl) (hnl : nl ≤ 10) (hW : WFc I o nl) (hH : WFh (I (o + 2)) nl) : RUN S (d + 1) YRacks_behindRounds [.ref o, .int (nI 10)] (m_row I 80 f) J R n (some (.int (rsC I o nl (af0 I o nl) 10))) (m_row I 80 f) J R n := by
  have h := c_Racks_behindRounds (S := S) (d := d) (J := J) (I := m_row I 80 f) (N := 10) hn hR ho hr hon (by rw [off_row0 ho (by decide)]; exact hh) hnh (by rw [off_row0 ho (by decide)]; exact hl) hnl (WFc_row ho (by decide) hW) (by rw [off_row ho (by decide) (by decide)]; exact hH) (by decide)
  have e0 : ∀ k, afN (m_row I 80 f) o (nI 0) k = afN I o (nI 0) k := by
    intro k
    induction k with
    | zero => rfl
    | succ k ih =>
      show afNS (m_row I 80 f) o k (afN (m_row I 80 f) o (nI 0) k) = afNS I o k (afN I o (nI 0) k)
      rw [ih]
      unfold afNS
      rw [off_row ho (by decide) (by decide)]
  have e : ∀ r k, brN (m_row I 80 f) o r (nI 0) k = brN I o r (nI 0) k := by
    intro r k
    induction k with
    | zero => rfl
    | succ k ih =>
      show brNS (m_row I 80 f) o r k (brN (m_row I 80 f) o r (nI 0) k) = brNS I o r k (brN I o r (nI 0) k)
      rw [ih]
      unfold brNS
      rw [off_row ho (by decide) (by decide), off_row ho (by decide) (by decide)]
  have e2 : ∀ r k, rsC (m_row I 80 f) o nl r k = rsC I o nl r k := by
    intro r k
    induction k with
    | zero => rfl
    | succ k ih =>
      unfold rsC
      rw [ih]
      exact e _ nl
  unfold af0 at h
  rw [e0, e2] at h
  exact h
theorem c_findRing {S : Nat × (Nat → Int32)} {d n : Nat} {I : mI} {J : mJ} {R : mR} (hn : 122 ≤ n) (hR : m_fin R) {o nh nl : Nat} (ho : o ∈ m_offs) (hr : offR R o) (hon : o + 8 < n) (hh : I o 0 = nI nh) (hnh : nh ≤ 6) (hl : I o 1 = nI nl) (hnl : nl ≤ 10) (hW : WFc I o nl) (hH : WFh (I (o + 2)) nl) {f : Nat → Int32} {P : Nat} (hP : 0 < P) (hP2 : P ≤ 1000) (hrp : rsC I o nl (rsC I o nl (af0 I o nl) 10) P = (rsC I o nl (af0 I o nl) 10)) (hn0 : ∀ j, 0 < j → j < P → ¬ rsC I o nl (rsC I o nl (af0 I o nl) 10) j = (rsC I o nl (af0 I o nl) 10))  : RUN S (d + 2) YRacks_findRing [.ref 80, .ref o] (m_row I 80 f) J R n none (m_row I 80 (va_up (va_up f 0 (nI P)) 1 (fbC (frT I o nl (rsC I o nl (af0 I o nl) 10) P) (nI 0) nl))) J R n := by
  show AW S _ YRacks_findRing n n _ 0 [(0, .ref 80), (1, .ref o)] [] (m_row I 80 f) J R n
  refine a_aload_n 1 dRacks_findRing_0 rfl rfl ?_
  refine a_bipushN (a := 10) dRacks_findRing_1 (by decide) ?_
  refine a_callS (Q' := m_res (some (.int (rsC I o nl (af0 I o nl) 10))) (m_row I 80 f) J R) (as := [.ref o, .int (nI 10)]) (st := []) dRacks_findRing_3 ml6_35 rfl (Nat.le_of_ble_eq_true rfl) (Nat.le_of_ble_eq_true rfl) rfl (Nat.le_refl _) (Nat.le_refl _) (c_brsX hn hR ho hr hon hh hnh hl hnl hW hH) (m_go ?_)
  show AW _ _ _ _ _ _ _ _ [.int (rsC I o nl (af0 I o nl) 10)] _ _ _ _
  refine a_istore_n (lv' := [(2, .int (rsC I o nl (af0 I o nl) 10)), (0, .ref 80), (1, .ref o)]) dRacks_findRing_6 rfl (by decide) rfl ?_
  refine a_iconstN (a := 0) dRacks_findRing_7 (by decide) ?_
  refine a_istore_n (lv' := [(3, .int (nI 0)), (2, .int (rsC I o nl (af0 I o nl) 10)), (0, .ref 80), (1, .ref o)]) dRacks_findRing_8 rfl (by decide) rfl ?_
  refine a_iload_n 1 dRacks_findRing_9 rfl rfl ?_
  refine a_istore (lv' := [(4, .int (rsC I o nl (af0 I o nl) 10)), (3, .int (nI 0)), (2, .int (rsC I o nl (af0 I o nl) 10)), (0, .ref 80), (1, .ref o)]) dRacks_findRing_10 (by decide) rfl ?_
  refine a_aload_n 3 dRacks_findRing_12 rfl rfl ?_
  refine a_iconstN (a := 0) dRacks_findRing_13 (by decide) ?_
  refine a_puti dRacks_findRing_14 fl6_38 rfl ly_80 (by omega) ?_
  rw [show m_up (m_row I 80 f) 80 0 (nI 0) = (m_row I 80 (va_up f 0 (nI 0))) from (by rw [m_up_r])]
  refine a_iconstN (a := 1) dRacks_findRing_17 (by decide) ?_
  refine a_istore (lv' := [(5, .int (nI 1)), (4, .int (rsC I o nl (af0 I o nl) 10)), (3, .int (nI 0)), (2, .int (rsC I o nl (af0 I o nl) 10)), (0, .ref 80), (1, .ref o)]) dRacks_findRing_18 (by decide) rfl ?_
  show AW _ _ _ _ _ _ _ [(5, .int (nI (0 + 1))), (4, .int (rsC I o nl (af0 I o nl) 10)), (3, .int (nI 0)), (2, .int (rsC I o nl (af0 I o nl) 10)), (0, .ref 80), (1, .ref o)] _ _ _ _ _
  refine a_locs (lv' := [(5, .int (nI (0 + 1))), (4, .int (rsC I o nl (af0 I o nl) 10)), (3, .int (nI 0)), (2, .int (rsC I o nl (af0 I o nl) 10)), (0, .ref 80), (1, .ref o)]) [0, 1, 2, 3, 4, 5] rfl ?_
  refine l_frN (s0 := nI 0) hn hR ho hr hon hh hnh hl hnl hW hH hP hP2 hrp hn0 ?_ (P - 1) 0 (by omega) _ rfl
  refine a_iload 0 dRacks_findRing_20 rfl ?_
  refine a_sipushN (a := 1000) dRacks_findRing_22 (by decide) ?_
  refine a_icmp_gtN (tgt := 68) dRacks_findRing_25 (by decide) (by omega) (by omega) (fun c => False.elim (by omega)) (fun _ => ?_)
  refine a_aload_n 4 dRacks_findRing_28 rfl rfl ?_
  refine a_geti dRacks_findRing_29 fl6_38 rfl ly_80 (by omega) ?_
  rw [show (m_row I 80 (va_up f 0 (nI 0))) 80 0 = (nI 0) from rfl]
  refine a_if_ne (tgt := 68) dRacks_findRing_32 (by decide) (fun c => False.elim (c rfl)) (fun _ => ?_)
  refine a_aload_n 5 dRacks_findRing_35 rfl rfl ?_
  refine a_iload 1 dRacks_findRing_36 rfl ?_
  refine a_callS (Q' := m_res (some (.int (brR I o nl (rsC I o nl (rsC I o nl (af0 I o nl) 10) (P - 1))))) (m_row I 80 (va_up f 0 (nI 0))) J R) (as := [.ref o, .int (rsC I o nl (rsC I o nl (af0 I o nl) 10) (P - 1))]) (st := []) dRacks_findRing_38 ml6_31 rfl (Nat.le_of_ble_eq_true rfl) (Nat.le_of_ble_eq_true rfl) rfl (Nat.le_refl _) (Nat.le_refl _) (c_brX hn hR ho hr hon hh hnh hl hnl hW hH) (m_go ?_)
  show AW _ _ _ _ _ _ _ _ [.int (brR I o nl (rsC I o nl (rsC I o nl (af0 I o nl) 10) (P - 1)))] _ _ _ _
  refine a_istore (lv' := [(4, .int (brR I o nl (rsC I o nl (rsC I o nl (af0 I o nl) 10) (P - 1)))), (5, .int (nI (P - 1 + 1))), (3, .int (frN I o nl (rsC I o nl (af0 I o nl) 10) (nI 0) (P - 1))), (2, .int (rsC I o nl (af0 I o nl) 10)), (0, .ref 80), (1, .ref o)]) dRacks_findRing_41 (by decide) rfl ?_
  refine a_iload_n 2 dRacks_findRing_43 rfl rfl ?_
  refine a_iload 0 dRacks_findRing_44 rfl ?_
  refine a_iload_n 3 dRacks_findRing_46 rfl rfl ?_
  refine a_ixor dRacks_findRing_47 ?_
  refine a_ior dRacks_findRing_48 ?_
  refine a_istore_n (lv' := [(3, .int ((frN I o nl (rsC I o nl (af0 I o nl) 10) (nI 0) (P - 1)) ||| ((brR I o nl (rsC I o nl (rsC I o nl (af0 I o nl) 10) (P - 1))) ^^^ (rsC I o nl (af0 I o nl) 10)))), (4, .int (brR I o nl (rsC I o nl (rsC I o nl (af0 I o nl) 10) (P - 1)))), (5, .int (nI (P - 1 + 1))), (2, .int (rsC I o nl (af0 I o nl) 10)), (0, .ref 80), (1, .ref o)]) dRacks_findRing_49 rfl (by decide) rfl ?_
  refine a_iload 1 dRacks_findRing_50 rfl ?_
  refine a_iload_n 3 dRacks_findRing_52 rfl rfl ?_
  refine a_icmp_ne (tgt := 62) dRacks_findRing_53 (by decide) (fun c => False.elim (c (by rw [show brR I o nl (rsC I o nl (rsC I o nl (af0 I o nl) 10) (P - 1)) = rsC I o nl (rsC I o nl (af0 I o nl) 10) (P - 1 + 1) from rfl, show P - 1 + 1 = P by omega]; exact hrp))) (fun _ => ?_)
  refine a_aload_n 4 dRacks_findRing_56 rfl rfl ?_
  refine a_iload 2 dRacks_findRing_57 rfl ?_
  refine a_puti dRacks_findRing_59 fl6_38 rfl ly_80 (by omega) ?_
  rw [show m_up (m_row I 80 (va_up f 0 (nI 0))) 80 0 (nI (P - 1 + 1)) = (m_row I 80 (va_up f 0 (nI (P - 1 + 1)))) from (by rw [m_up_r, show va_up (va_up f 0 (nI 0)) 0 (nI (P - 1 + 1)) = (va_up f 0 (nI (P - 1 + 1))) from va_uu])]
  refine a_iincN (lv' := [(5, .int (nI ((P - 1 + 1) + 1))), (3, .int ((frN I o nl (rsC I o nl (af0 I o nl) 10) (nI 0) (P - 1)) ||| ((brR I o nl (rsC I o nl (rsC I o nl (af0 I o nl) 10) (P - 1))) ^^^ (rsC I o nl (af0 I o nl) 10)))), (4, .int (brR I o nl (rsC I o nl (rsC I o nl (af0 I o nl) 10) (P - 1)))), (2, .int (rsC I o nl (af0 I o nl) 10)), (0, .ref 80), (1, .ref o)]) (j := 2) dRacks_findRing_62 rfl (by decide) rfl ?_
  refine a_goto (tgt := 20) dRacks_findRing_65 (by decide) ?_
  rw [show P - 1 + 1 = P by omega]
  by_cases h1k : P + 1 ≤ 1000
  · refine a_iload 0 dRacks_findRing_20 rfl ?_
    refine a_sipushN (a := 1000) dRacks_findRing_22 (by decide) ?_
    refine a_icmp_gtN (tgt := 68) dRacks_findRing_25 (by decide) (by omega) (by omega) (fun c => False.elim (by omega)) (fun _ => ?_)
    refine a_aload_n 4 dRacks_findRing_28 rfl rfl ?_
    refine a_geti dRacks_findRing_29 fl6_38 rfl ly_80 (by omega) ?_
    rw [show (m_row I 80 (va_up f 0 (nI P))) 80 0 = (nI P) from rfl]
    refine a_if_ne (tgt := 68) dRacks_findRing_32 (by decide) (fun _ => ?_) (fun c => False.elim (nI_ne0 hP (by omega) c))
    refine a_aload_n 4 dRacks_findRing_68 rfl rfl ?_
    refine a_iconstN (a := 0) dRacks_findRing_69 (by decide) ?_
    refine a_puti dRacks_findRing_70 fl6_41 rfl ly_80 (by omega) ?_
    rw [show m_up (m_row I 80 (va_up f 0 (nI P))) 80 1 (nI 0) = (m_row I 80 (va_up (va_up f 0 (nI P)) 1 (nI 0))) from (by rw [m_up_r])]
    refine a_iconstN (a := 0) dRacks_findRing_73 (by decide) ?_
    refine a_istore (lv' := [(5, .int (nI 0)), (3, .int ((frN I o nl (rsC I o nl (af0 I o nl) 10) (nI 0) (P - 1)) ||| ((brR I o nl (rsC I o nl (rsC I o nl (af0 I o nl) 10) (P - 1))) ^^^ (rsC I o nl (af0 I o nl) 10)))), (4, .int (brR I o nl (rsC I o nl (rsC I o nl (af0 I o nl) 10) (P - 1)))), (2, .int (rsC I o nl (af0 I o nl) 10)), (0, .ref 80), (1, .ref o)]) dRacks_findRing_74 (by decide) rfl ?_
    refine a_locs (lv' := [(5, .int (nI 0)), (4, .int (brR I o nl (rsC I o nl (rsC I o nl (af0 I o nl) 10) (P - 1)))), (3, .int ((frN I o nl (rsC I o nl (af0 I o nl) 10) (nI 0) (P - 1)) ||| ((brR I o nl (rsC I o nl (rsC I o nl (af0 I o nl) 10) (P - 1))) ^^^ (rsC I o nl (af0 I o nl) 10)))), (2, .int (rsC I o nl (af0 I o nl) 10)), (0, .ref 80), (1, .ref o)]) [0, 2, 1, 3, 4, 5] rfl ?_
    refine l_fbC (s0 := (nI 0)) hn hR ho hr hon hh hnh hl hnl hW hH (f := f) (c := frT I o nl (rsC I o nl (af0 I o nl) 10) P) (P := P) ?_ nl 0 (by omega) _ rfl
    exact a_vret dRacks_findRing_115 rfl ⟨rfl, rfl, rfl, rfl⟩
  · refine a_iload 0 dRacks_findRing_20 rfl ?_
    refine a_sipushN (a := 1000) dRacks_findRing_22 (by decide) ?_
    refine a_icmp_gtN (tgt := 68) dRacks_findRing_25 (by decide) (by omega) (by omega) (fun _ => ?_) (fun c => False.elim (by omega))
    refine a_aload_n 4 dRacks_findRing_68 rfl rfl ?_
    refine a_iconstN (a := 0) dRacks_findRing_69 (by decide) ?_
    refine a_puti dRacks_findRing_70 fl6_41 rfl ly_80 (by omega) ?_
    rw [show m_up (m_row I 80 (va_up f 0 (nI P))) 80 1 (nI 0) = (m_row I 80 (va_up (va_up f 0 (nI P)) 1 (nI 0))) from (by rw [m_up_r])]
    refine a_iconstN (a := 0) dRacks_findRing_73 (by decide) ?_
    refine a_istore (lv' := [(5, .int (nI 0)), (3, .int ((frN I o nl (rsC I o nl (af0 I o nl) 10) (nI 0) (P - 1)) ||| ((brR I o nl (rsC I o nl (rsC I o nl (af0 I o nl) 10) (P - 1))) ^^^ (rsC I o nl (af0 I o nl) 10)))), (4, .int (brR I o nl (rsC I o nl (rsC I o nl (af0 I o nl) 10) (P - 1)))), (2, .int (rsC I o nl (af0 I o nl) 10)), (0, .ref 80), (1, .ref o)]) dRacks_findRing_74 (by decide) rfl ?_
    refine a_locs (lv' := [(5, .int (nI 0)), (4, .int (brR I o nl (rsC I o nl (rsC I o nl (af0 I o nl) 10) (P - 1)))), (3, .int ((frN I o nl (rsC I o nl (af0 I o nl) 10) (nI 0) (P - 1)) ||| ((brR I o nl (rsC I o nl (rsC I o nl (af0 I o nl) 10) (P - 1))) ^^^ (rsC I o nl (af0 I o nl) 10)))), (2, .int (rsC I o nl (af0 I o nl) 10)), (0, .ref 80), (1, .ref o)]) [0, 2, 1, 3, 4, 5] rfl ?_
    refine l_fbC (s0 := (nI 0)) hn hR ho hr hon hh hnh hl hnl hW hH (f := f) (c := frT I o nl (rsC I o nl (af0 I o nl) 10) P) (P := P) ?_ nl 0 (by omega) _ rfl
    exact a_vret dRacks_findRing_115 rfl ⟨rfl, rfl, rfl, rfl⟩
