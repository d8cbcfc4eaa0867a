def WFmC (I : mI) (o nl : Nat) : Prop := ∀ l, l < nl → I (o + 6) l = -1 ∨ ∃ m, m < nl ∧ I (o + 6) l = nI m
/-- how long the row of minding from a letter on is -/
def rfN (mn : Nat → Int32) : Nat → Int32 → Int32 → Nat → Nat
  | 0, _, _, r => r
  | f + 1, s, a, r => if a = -1 then r else if f_has s a = 0 then rfN mn f (s ||| (nI 1 <<< (a &&& 31))) (mn a.toNatClampNeg) (r + 1) else r
theorem l_rowFrom {S : Nat × (Nat → Int32)} {d n : Nat} {I : mI} {J : mJ} {R : mR} (hn : 122 ≤ n) (hR : m_fin R) {o nh nl : Nat} (ho : o ∈ m_offs) (hr : offR R o) (hon : o + 8 < n) (hh : I o 0 = nI nh) (hnh : nh ≤ 6) (hl : I o 1 = nI nl) (hnl : nl ≤ 10) (hW : WFc I o nl) (hH : WFh (I (o + 2)) nl) {x : Int32} (hM : WFmC I o nl) {Q : Option Value → mI → mJ → mR → Prop} : ∀ f r (s a : Int32), r + f = nl → (a = -1 ∨ ∃ m, m < nl ∧ a = nI m) → Q (some (.int (nI (rfN (I (o + 6)) f s a r)))) I J R → AW S d YRacks_rowFrom n n Q 7 [(4, .int (nI r)), (2, .int s), (3, .int a), (0, .ref o), (1, .int x)] [] I J R n := by
  intro f
  induction f with
  | zero =>
    intro r s a hf ha hQ
    rw [show r = nl by omega] at hQ ⊢
    refine a_iload 0 dRacks_rowFrom_7 rfl ?_
    refine a_aload_n 3 dRacks_rowFrom_9 rfl rfl ?_
    refine a_geti dRacks_rowFrom_10 fl6_9 rfl (of_l0 ho) (by omega) ?_
    rw [show I o 1 = (nI nl) from hl]
    refine a_icmp_geN (tgt := 48) dRacks_rowFrom_13 (by decide) (by omega) (by omega) (fun _ => ?_) (fun c => False.elim (by omega))
    refine a_iload 0 dRacks_rowFrom_48 rfl ?_
    exact a_iret dRacks_rowFrom_50 rfl hQ
  | succ f ih =>
    intro r s a hf ha hQ
    rcases ha with rfl | ⟨m, hm, rfl⟩
    · unfold rfN at hQ
      rw [if_pos rfl] at hQ
      refine a_iload 0 dRacks_rowFrom_7 rfl ?_
      refine a_aload_n 3 dRacks_rowFrom_9 rfl rfl ?_
      refine a_geti dRacks_rowFrom_10 fl6_9 rfl (of_l0 ho) (by omega) ?_
      rw [show I o 1 = (nI nl) from hl]
      refine a_icmp_geN (tgt := 48) dRacks_rowFrom_13 (by decide) (by omega) (by omega) (fun c => False.elim (by omega)) (fun _ => ?_)
      refine a_iload_n 2 dRacks_rowFrom_16 rfl rfl ?_
      refine a_iconst (v := -1) dRacks_rowFrom_17 (by decide) ?_
      refine a_icmp_eq (tgt := 48) dRacks_rowFrom_18 (by decide) (fun _ => ?_) (fun c => False.elim (c rfl))
      refine a_iload 0 dRacks_rowFrom_48 rfl ?_
      exact a_iret dRacks_rowFrom_50 rfl hQ
    · unfold rfN at hQ
      rw [if_neg (nI_m1 (by omega)), nI_clamp (by omega)] at hQ
      by_cases hs : f_has s (nI m) = 0
      · rw [if_pos hs] at hQ
        refine a_iload 0 dRacks_rowFrom_7 rfl ?_
        refine a_aload_n 3 dRacks_rowFrom_9 rfl rfl ?_
        refine a_geti dRacks_rowFrom_10 fl6_9 rfl (of_l0 ho) (by omega) ?_
        rw [show I o 1 = (nI nl) from hl]
        refine a_icmp_geN (tgt := 48) dRacks_rowFrom_13 (by decide) (by omega) (by omega) (fun c => False.elim (by omega)) (fun _ => ?_)
        refine a_iload_n 2 dRacks_rowFrom_16 rfl rfl ?_
        refine a_iconst (v := -1) dRacks_rowFrom_17 (by decide) ?_
        refine a_icmp_eq (tgt := 48) dRacks_rowFrom_18 (by decide) (fun c => False.elim (nI_m1 (by omega) c)) (fun _ => ?_)
        refine a_iload_n 1 dRacks_rowFrom_21 rfl rfl ?_
        refine a_iload_n 2 dRacks_rowFrom_22 rfl rfl ?_
        refine a_ishr dRacks_rowFrom_23 ?_
        refine a_iconstN (a := 1) dRacks_rowFrom_24 (by decide) ?_
        refine a_iand dRacks_rowFrom_25 ?_
        refine a_if_ne (tgt := 48) dRacks_rowFrom_26 (by decide) (fun c => False.elim (c (has_z.mp hs))) (fun _ => ?_)
        refine a_iload_n 1 dRacks_rowFrom_29 rfl rfl ?_
        refine a_iconstN (a := 1) dRacks_rowFrom_30 (by decide) ?_
        refine a_iload_n 2 dRacks_rowFrom_31 rfl rfl ?_
        refine a_ishl dRacks_rowFrom_32 ?_
        refine a_ior dRacks_rowFrom_33 ?_
        refine a_istore_n (lv' := [(2, .int (s ||| ((nI 1) <<< ((nI m) &&& 31)))), (4, .int (nI r)), (3, .int (nI m)), (0, .ref o), (1, .int x)]) dRacks_rowFrom_34 rfl (by decide) rfl ?_
        refine a_aload_n 3 dRacks_rowFrom_35 rfl rfl ?_
        refine a_geta (r := (o + 6)) dRacks_rowFrom_36 fl6_19 rfl (of_l0 ho) (by omega) (hr 5 (by decide)) ?_
        refine a_iload_n 2 dRacks_rowFrom_39 rfl rfl ?_
        refine a_ialdN (a := m) dRacks_rowFrom_40 (of_l6 ho) (by omega) (by omega) (by decide) ?_
        rw [show I (o + 6) m = I (o + 6) m from rfl]
        refine a_istore_n (lv' := [(3, .int (I (o + 6) m)), (2, .int (s ||| ((nI 1) <<< ((nI m) &&& 31)))), (4, .int (nI r)), (0, .ref o), (1, .int x)]) dRacks_rowFrom_41 rfl (by decide) rfl ?_
        refine a_iincN (lv' := [(4, .int (nI (r + 1))), (3, .int (I (o + 6) m)), (2, .int (s ||| ((nI 1) <<< ((nI m) &&& 31)))), (0, .ref o), (1, .int x)]) (j := 2) dRacks_rowFrom_42 rfl (by decide) rfl ?_
        refine a_goto (tgt := 7) dRacks_rowFrom_45 (by decide) ?_
        refine a_locs (lv' := [(4, .int (nI (r + 1))), (2, .int (s ||| ((nI 1) <<< ((nI m) &&& 31)))), (3, .int (I (o + 6) m)), (0, .ref o), (1, .int x)]) [0, 2, 1, 3, 4] rfl ?_
        exact ih (r + 1) _ _ (by omega) (hM m hm) hQ
      · rw [if_neg hs] at hQ
        refine a_iload 0 dRacks_rowFrom_7 rfl ?_
        refine a_aload_n 3 dRacks_rowFrom_9 rfl rfl ?_
        refine a_geti dRacks_rowFrom_10 fl6_9 rfl (of_l0 ho) (by omega) ?_
        rw [show I o 1 = (nI nl) from hl]
        refine a_icmp_geN (tgt := 48) dRacks_rowFrom_13 (by decide) (by omega) (by omega) (fun c => False.elim (by omega)) (fun _ => ?_)
        refine a_iload_n 2 dRacks_rowFrom_16 rfl rfl ?_
        refine a_iconst (v := -1) dRacks_rowFrom_17 (by decide) ?_
        refine a_icmp_eq (tgt := 48) dRacks_rowFrom_18 (by decide) (fun c => False.elim (nI_m1 (by omega) c)) (fun _ => ?_)
        refine a_iload_n 1 dRacks_rowFrom_21 rfl rfl ?_
        refine a_iload_n 2 dRacks_rowFrom_22 rfl rfl ?_
        refine a_ishr dRacks_rowFrom_23 ?_
        refine a_iconstN (a := 1) dRacks_rowFrom_24 (by decide) ?_
        refine a_iand dRacks_rowFrom_25 ?_
        refine a_if_ne (tgt := 48) dRacks_rowFrom_26 (by decide) (fun _ => ?_) (fun c => False.elim (hs (has_z.mpr c)))
        refine a_iload 0 dRacks_rowFrom_48 rfl ?_
        exact a_iret dRacks_rowFrom_50 rfl hQ
theorem c_Racks_rowFrom {S : Nat × (Nat → Int32)} {d n : Nat} {I : mI} {J : mJ} {R : mR} (hn : 122 ≤ n) (hR : m_fin R) {o nh nl : Nat} (ho : o ∈ m_offs) (hr : offR R o) (hon : o + 8 < n) (hh : I o 0 = nI nh) (hnh : nh ≤ 6) (hl : I o 1 = nI nl) (hnl : nl ≤ 10) (hW : WFc I o nl) (hH : WFh (I (o + 2)) nl) (hM : WFmC I o nl) {l : Nat} (hln : l < nl)  : RUN S d YRacks_rowFrom [.ref o, .int (nI l)] I J R n (some (.int (nI (rfN (I (o + 6)) nl (nI 0) (nI l) 0)))) I J R n := by
  show AW S _ YRacks_rowFrom n n _ 0 [(0, .ref o), (1, .int (nI l))] [] I J R n
  refine a_iconstN (a := 0) dRacks_rowFrom_0 (by decide) ?_
  refine a_istore_n (lv' := [(2, .int (nI 0)), (0, .ref o), (1, .int (nI l))]) dRacks_rowFrom_1 rfl (by decide) rfl ?_
  refine a_iload_n 2 dRacks_rowFrom_2 rfl rfl ?_
  refine a_istore_n (lv' := [(3, .int (nI l)), (2, .int (nI 0)), (0, .ref o), (1, .int (nI l))]) dRacks_rowFrom_3 rfl (by decide) rfl ?_
  refine a_iconstN (a := 0) dRacks_rowFrom_4 (by decide) ?_
  refine a_istore (lv' := [(4, .int (nI 0)), (3, .int (nI l)), (2, .int (nI 0)), (0, .ref o), (1, .int (nI l))]) dRacks_rowFrom_5 (by decide) rfl ?_
  refine a_locs (lv' := [(4, .int (nI 0)), (2, .int (nI 0)), (3, .int (nI l)), (0, .ref o), (1, .int (nI l))]) [0, 2, 1, 3, 4] rfl ?_
  exact l_rowFrom hn hR ho hr hon hh hnh hl hnl hW hH hM nl 0 (nI 0) (nI l) (by omega) (Or.inr ⟨l, hln, rfl⟩) ⟨rfl, rfl, rfl, rfl⟩
def lrCS (I : mI) (o nl : Nat) (k : Nat) (s : Int32) : Int32 := (if s < (nI (rfN (I (o + 6)) nl (nI 0) (nI k) 0)) then (nI (rfN (I (o + 6)) nl (nI 0) (nI k) 0)) else s)
def lrC (I : mI) (o nl : Nat) (s0 : Int32) : Nat → Int32
  | 0 => s0
  | k + 1 => lrCS I o nl k (lrC I o nl s0 k)
theorem l_lrC {S : Nat × (Nat → Int32)} {d n : Nat} {I : mI} {J : mJ} {R : mR} (hn : 122 ≤ n) (hR : m_fin R) {o nh nl : Nat} (ho : o ∈ m_offs) (hr : offR R o) (hon : o + 8 < n) (hh : I o 0 = nI nh) (hnh : nh ≤ 6) (hl : I o 1 = nI nl) (hnl : nl ≤ 10) (hW : WFc I o nl) (hH : WFh (I (o + 2)) nl) (hM : WFmC I o nl)  {s0 : Int32} {Q : Option Value → mI → mJ → mR → Prop}  (hx : AW S (d + 1) YRacks_longestRow n n Q 28 [(3, .int (nI nl)), (2, .int (lrC I o nl s0 nl)), (0, .ref 80), (1, .ref o)] [] I J R n) : ∀ m k, k + m = nl → ∀ s : Int32, lrC I o nl s0 k = s → AW S (d + 1) YRacks_longestRow n n Q 4 [(3, .int (nI k)), (2, .int s), (0, .ref 80), (1, .ref o)] [] I J R n := by
  intro m
  induction m with
  | zero =>
    intro k hk9 s es
    rw [show k = nl by omega] at es ⊢
    subst es
    refine a_iload_n 0 dRacks_longestRow_4 rfl rfl ?_
    refine a_aload_n 3 dRacks_longestRow_5 rfl rfl ?_
    refine a_geti dRacks_longestRow_6 fl6_9 rfl (of_l0 ho) (by omega) ?_
    rw [show I o 1 = (nI nl) from hl]
    refine a_icmp_geN (tgt := 28) dRacks_longestRow_9 (by decide) (by omega) (by omega) (fun _ => ?_) (fun c => False.elim (by omega))
    exact hx
  | succ m ih =>
    intro k hk9 s es
    refine a_iload_n 0 dRacks_longestRow_4 rfl rfl ?_
    refine a_aload_n 3 dRacks_longestRow_5 rfl rfl ?_
    refine a_geti dRacks_longestRow_6 fl6_9 rfl (of_l0 ho) (by omega) ?_
    rw [show I o 1 = (nI nl) from hl]
    refine a_icmp_geN (tgt := 28) dRacks_longestRow_9 (by decide) (by omega) (by omega) (fun c => False.elim (by omega)) (fun _ => ?_)
    refine a_iload_n 1 dRacks_longestRow_12 rfl rfl ?_
    refine a_aload_n 3 dRacks_longestRow_13 rfl rfl ?_
    refine a_iload_n 0 dRacks_longestRow_14 rfl rfl ?_
    refine a_callS (Q' := m_res (some (.int (nI (rfN (I (o + 6)) nl (nI 0) (nI k) 0)))) I J R) (as := [.ref o, .int (nI k)]) (st := [.int s]) dRacks_longestRow_15 ml6_44 rfl (Nat.le_of_ble_eq_true rfl) (Nat.le_of_ble_eq_true rfl) rfl (Nat.le_refl _) (Nat.le_refl _) (c_Racks_rowFrom hn hR ho hr hon hh hnh hl hnl hW hH hM (by omega)) (m_go ?_)
    show AW _ _ _ _ _ _ _ _ [.int (nI (rfN (I (o + 6)) nl (nI 0) (nI k) 0)), .int s] _ _ _ _
    refine a_max dRacks_longestRow_18 mm6_47 (Nat.le_of_ble_eq_true rfl) (Nat.le_refl _) ?_
    refine a_istore_n (lv' := [(2, .int (if s < (nI (rfN (I (o + 6)) nl (nI 0) (nI k) 0)) then (nI (rfN (I (o + 6)) nl (nI 0) (nI k) 0)) else s)), (3, .int (nI k)), (0, .ref 80), (1, .ref o)]) dRacks_longestRow_21 rfl (by decide) rfl ?_
    refine a_iincN (lv' := [(3, .int (nI (k + 1))), (2, .int (if s < (nI (rfN (I (o + 6)) nl (nI 0) (nI k) 0)) then (nI (rfN (I (o + 6)) nl (nI 0) (nI k) 0)) else s)), (0, .ref 80), (1, .ref o)]) (j := 1) dRacks_longestRow_22 rfl (by decide) rfl ?_
    refine a_goto (tgt := 4) dRacks_longestRow_25 (by decide) ?_
    have ez9 : lrC I o nl s0 (k + 1) = (if s < (nI (rfN (I (o + 6)) nl (nI 0) (nI k) 0)) then (nI (rfN (I (o + 6)) nl (nI 0) (nI k) 0)) else s) := by
      show lrCS I o nl k (lrC I o nl s0 k) = _
      rw [es]
      unfold lrCS
      rfl
    exact ih (k + 1) (by omega) (if s < (nI (rfN (I (o + 6)) nl (nI 0) (nI k) 0)) then (nI (rfN (I (o + 6)) nl (nI 0) (nI k) 0)) else s) ez9
theorem c_Racks_longestRow {S : Nat × (Nat → Int32)} {d n : Nat} {I : mI} {J : mJ} {R : mR} (hn : 122 ≤ n) (hR : m_fin R) {o nh nl : Nat} (ho : o ∈ m_offs) (hr : offR R o) (hon : o + 8 < n) (hh : I o 0 = nI nh) (hnh : nh ≤ 6) (hl : I o 1 = nI nl) (hnl : nl ≤ 10) (hW : WFc I o nl) (hH : WFh (I (o + 2)) nl) (hM : WFmC I o nl)  : RUN S (d + 1) YRacks_longestRow [.ref 80, .ref o] I J R n (some (.int (lrC I o nl (nI 0) nl))) I J R n := by
  show AW S _ YRacks_longestRow n n _ 0 [(0, .ref 80), (1, .ref o)] [] I J R n
  refine a_iconstN (a := 0) dRacks_longestRow_0 (by decide) ?_
  refine a_istore_n (lv' := [(2, .int (nI 0)), (0, .ref 80), (1, .ref o)]) dRacks_longestRow_1 rfl (by decide) rfl ?_
  refine a_iconstN (a := 0) dRacks_longestRow_2 (by decide) ?_
  refine a_istore_n (lv' := [(3, .int (nI 0)), (2, .int (nI 0)), (0, .ref 80), (1, .ref o)]) dRacks_longestRow_3 rfl (by decide) rfl ?_
  refine l_lrC (s0 := (nI 0)) hn hR ho hr hon hh hnh hl hnl hW hH hM ?_ nl 0 (by omega) _ rfl
  refine a_iload_n 1 dRacks_longestRow_28 rfl rfl ?_
  exact a_iret dRacks_longestRow_29 rfl ⟨rfl, rfl, rfl, rfl⟩
def lrN (mn : Nat → Int32) (x : Int32) : Nat → Int32 → Int32 → Int32
  | 0, _, _ => -1
  | f + 1, le, a => if mn a.toNatClampNeg = -1 then -1 else if mn a.toNatClampNeg = x then le else lrN mn x f (if mn a.toNatClampNeg < le then mn a.toNatClampNeg else le) (mn a.toNatClampNeg)
theorem l_leastOfRing {S : Nat × (Nat → Int32)} {d n : Nat} {I : mI} {J : mJ} {R : mR} (hn : 122 ≤ n) (hR : m_fin R) {o nh nl : Nat} (ho : o ∈ m_offs) (hr : offR R o) (hon : o + 8 < n) (hh : I o 0 = nI nh) (hnh : nh ≤ 6) (hl : I o 1 = nI nl) (hnl : nl ≤ 10) (hW : WFc I o nl) (hH : WFh (I (o + 2)) nl) {x : Int32} {f9 : Nat → Int32} (hM : WFmC I o nl) {Q : Option Value → mI → mJ → mR → Prop} : ∀ f i (le : Int32) (m : Nat), i + f = nl → m < nl → Q (some (.int (lrN (I (o + 6)) x f le (nI m)))) (m_row I 80 f9) J R → AW S (d + 1) YRacks_leastOfRing n n Q 7 [(4, .int (nI i)), (2, .int le), (3, .int (nI m)), (0, .ref o), (1, .int x)] [] (m_row I 80 f9) J R n := by
  intro f
  induction f with
  | zero =>
    intro i le m hf hm hQ
    rw [show i = nl by omega] at ⊢
    refine a_iload 0 dRacks_leastOfRing_7 rfl ?_
    refine a_aload_n 3 dRacks_leastOfRing_9 rfl rfl ?_
    refine a_geti dRacks_leastOfRing_10 fl6_9 rfl (of_l0 ho) (by omega) ?_
    rw [show (m_row I 80 f9) o 1 = (nI nl) from ((show (m_row I 80 f9) o 1 = I o 1 by rw [m_row_ne (oc_ne0 ho (by decide))]).trans hl)]
    refine a_icmp_geN (tgt := 49) dRacks_leastOfRing_13 (by decide) (by omega) (by omega) (fun _ => ?_) (fun c => False.elim (by omega))
    refine a_iconst (v := -1) dRacks_leastOfRing_49 (by decide) ?_
    exact a_iret dRacks_leastOfRing_50 rfl hQ
  | succ f ih =>
    intro i le m hf hm hQ
    unfold lrN at hQ
    rw [nI_clamp (by omega)] at hQ
    refine a_iload 0 dRacks_leastOfRing_7 rfl ?_
    refine a_aload_n 3 dRacks_leastOfRing_9 rfl rfl ?_
    refine a_geti dRacks_leastOfRing_10 fl6_9 rfl (of_l0 ho) (by omega) ?_
    rw [show (m_row I 80 f9) o 1 = (nI nl) from ((show (m_row I 80 f9) o 1 = I o 1 by rw [m_row_ne (oc_ne0 ho (by decide))]).trans hl)]
    refine a_icmp_geN (tgt := 49) dRacks_leastOfRing_13 (by decide) (by omega) (by omega) (fun c => False.elim (by omega)) (fun _ => ?_)
    refine a_aload_n 3 dRacks_leastOfRing_16 rfl rfl ?_
    refine a_geta (r := (o + 6)) dRacks_leastOfRing_17 fl6_19 rfl (of_l0 ho) (by omega) (hr 5 (by decide)) ?_
    refine a_iload_n 2 dRacks_leastOfRing_20 rfl rfl ?_
    refine a_ialdN (a := m) dRacks_leastOfRing_21 (of_l6 ho) (by omega) (by omega) (by decide) ?_
    rw [show (m_row I 80 f9) (o + 6) m = I (o + 6) m from (by rw [m_row_ne (oc_ne ho (by decide) (by decide))])]
    refine a_istore_n (lv' := [(3, .int (I (o + 6) m)), (4, .int (nI i)), (2, .int le), (0, .ref o), (1, .int x)]) dRacks_leastOfRing_22 rfl (by decide) rfl ?_
    refine a_iload_n 0 dRacks_leastOfRing_23 rfl rfl ?_
    refine a_iconst (v := -1) dRacks_leastOfRing_24 (by decide) ?_
    refine a_icmp_ne (tgt := 30) dRacks_leastOfRing_25 (by decide) (fun c25 => ?_) (fun c25 => ?_)
    · refine a_iload_n 0 dRacks_leastOfRing_30 rfl rfl ?_
      refine a_iload_n 4 dRacks_leastOfRing_31 rfl rfl ?_
      refine a_icmp_ne (tgt := 37) dRacks_leastOfRing_32 (by decide) (fun c32 => ?_) (fun c32 => ?_)
      · refine a_iload_n 2 dRacks_leastOfRing_37 rfl rfl ?_
        refine a_iload_n 0 dRacks_leastOfRing_38 rfl rfl ?_
        refine a_min dRacks_leastOfRing_39 mm6_60 (Nat.le_of_ble_eq_true rfl) (Nat.le_refl _) ?_
        refine a_istore_n (lv' := [(2, .int (if (I (o + 6) m) < le then (I (o + 6) m) else le)), (3, .int (I (o + 6) m)), (4, .int (nI i)), (0, .ref o), (1, .int x)]) dRacks_leastOfRing_42 rfl (by decide) rfl ?_
        refine a_iincN (lv' := [(4, .int (nI (i + 1))), (2, .int (if (I (o + 6) m) < le then (I (o + 6) m) else le)), (3, .int (I (o + 6) m)), (0, .ref o), (1, .int x)]) (j := 2) dRacks_leastOfRing_43 rfl (by decide) rfl ?_
        refine a_goto (tgt := 7) dRacks_leastOfRing_46 (by decide) ?_
        rw [if_neg c25, if_neg c32] at hQ
        refine a_locs (lv' := [(4, .int (nI (i + 1))), (2, .int (if (I (o + 6) m) < le then (I (o + 6) m) else le)), (3, .int (I (o + 6) m)), (0, .ref o), (1, .int x)]) [0, 1, 2, 3, 4] rfl ?_
        rcases hM m hm with h | ⟨m2, hm2, h⟩
        · exact absurd h c25
        · rw [h] at hQ ⊢
          exact ih (i + 1) _ m2 (by omega) hm2 hQ
      · refine a_iload_n 2 dRacks_leastOfRing_35 rfl rfl ?_
        exact a_iret dRacks_leastOfRing_36 rfl (by rw [if_neg c25, if_pos c32] at hQ; exact hQ)
    · refine a_iconst (v := -1) dRacks_leastOfRing_28 (by decide) ?_
      exact a_iret dRacks_leastOfRing_29 rfl (by rw [if_pos c25] at hQ; exact hQ)
theorem c_leastOfRing {S : Nat × (Nat → Int32)} {d n : Nat} {I : mI} {J : mJ} {R : mR} (hn : 122 ≤ n) (hR : m_fin R) {o nh nl : Nat} (ho : o ∈ m_offs) (hr : offR R o) (hon : o + 8 < n) (hh : I o 0 = nI nh) (hnh : nh ≤ 6) (hl : I o 1 = nI nl) (hnl : nl ≤ 10) (hW : WFc I o nl) (hH : WFh (I (o + 2)) nl) (hM : WFmC I o nl) {l : Nat} (hln : l < nl) {f9 : Nat → Int32} : RUN S (d + 1) YRacks_leastOfRing [.ref o, .int (nI l)] (m_row I 80 f9) J R n (some (.int (lrN (I (o + 6)) (nI l) nl (nI l) (nI l)))) (m_row I 80 f9) J R n := by
  show AW S _ YRacks_leastOfRing n n _ 0 [(0, .ref o), (1, .int (nI l))] [] (m_row I 80 f9) J R n
  refine a_iload_n 1 dRacks_leastOfRing_0 rfl rfl ?_
  refine a_istore_n (lv' := [(2, .int (nI l)), (0, .ref o), (1, .int (nI l))]) dRacks_leastOfRing_1 rfl (by decide) rfl ?_
  refine a_iload_n 2 dRacks_leastOfRing_2 rfl rfl ?_
  refine a_istore_n (lv' := [(3, .int (nI l)), (2, .int (nI l)), (0, .ref o), (1, .int (nI l))]) dRacks_leastOfRing_3 rfl (by decide) rfl ?_
  refine a_iconstN (a := 0) dRacks_leastOfRing_4 (by decide) ?_
  refine a_istore (lv' := [(4, .int (nI 0)), (3, .int (nI l)), (2, .int (nI l)), (0, .ref o), (1, .int (nI l))]) dRacks_leastOfRing_5 (by decide) rfl ?_
  refine a_locs (lv' := [(4, .int (nI 0)), (2, .int (nI l)), (3, .int (nI l)), (0, .ref o), (1, .int (nI l))]) [0, 2, 1, 3, 4] rfl ?_
  exact l_leastOfRing hn hR ho hr hon hh hnh hl hnl hW hH hM nl 0 (nI l) l (by omega) hln ⟨rfl, rfl, rfl, rfl⟩
def loCS (I : mI) (o nl : Nat) (bl : Int32) (k : Nat) (s : Int32) : Int32 := (if f_has bl (nI k) = 0 then s else (if (lrN (I (o + 6)) (nI k) nl (nI k) (nI k)) = (nI k) then (s ||| ((nI 1) <<< ((nI k) &&& 31))) else s))
def loC (I : mI) (o nl : Nat) (bl : Int32) (s0 : Int32) : Nat → Int32
  | 0 => s0
  | k + 1 => loCS I o nl bl k (loC I o nl bl s0 k)
theorem l_loC {S : Nat × (Nat → Int32)} {d n : Nat} {I : mI} {J : mJ} {R : mR} (hn : 122 ≤ n) (hR : m_fin R) {o nh nl : Nat} (ho : o ∈ m_offs) (hr : offR R o) (hon : o + 8 < n) (hh : I o 0 = nI nh) (hnh : nh ≤ 6) (hl : I o 1 = nI nl) (hnl : nl ≤ 10) (hW : WFc I o nl) (hH : WFh (I (o + 2)) nl) (hM : WFmC I o nl) {f9 : Nat → Int32} {bl : Int32} (hbl : f9 1 = bl)  {s0 : Int32} {Q : Option Value → mI → mJ → mR → Prop}  (hx : AW S (d + 3) YRacks_loosened n n Q 50 [(3, .int (nI nl)), (2, .int (loC I o nl bl s0 nl)), (0, .ref 80), (1, .ref o)] [] (m_row I 80 f9) J R n) : ∀ m k, k + m = nl → ∀ s : Int32, loC I o nl bl s0 k = s → AW S (d + 3) YRacks_loosened n n Q 9 [(3, .int (nI k)), (2, .int s), (0, .ref 80), (1, .ref o)] [] (m_row I 80 f9) J R n := by
  intro m
  induction m with
  | zero =>
    intro k hk9 s es
    rw [show k = nl by omega] at es ⊢
    subst es
    refine a_iload_n 0 dRacks_loosened_9 rfl rfl ?_
    refine a_aload_n 3 dRacks_loosened_10 rfl rfl ?_
    refine a_geti dRacks_loosened_11 fl6_9 rfl (of_l0 ho) (by omega) ?_
    rw [show (m_row I 80 f9) o 1 = (nI nl) from ((show (m_row I 80 f9) o 1 = I o 1 by rw [m_row_ne (oc_ne0 ho (by decide))]).trans hl)]
    refine a_icmp_geN (tgt := 50) dRacks_loosened_14 (by decide) (by omega) (by omega) (fun _ => ?_) (fun c => False.elim (by omega))
    exact hx
  | succ m ih =>
    intro k hk9 s es
    refine a_iload_n 0 dRacks_loosened_9 rfl rfl ?_
    refine a_aload_n 3 dRacks_loosened_10 rfl rfl ?_
    refine a_geti dRacks_loosened_11 fl6_9 rfl (of_l0 ho) (by omega) ?_
    rw [show (m_row I 80 f9) o 1 = (nI nl) from ((show (m_row I 80 f9) o 1 = I o 1 by rw [m_row_ne (oc_ne0 ho (by decide))]).trans hl)]
    refine a_icmp_geN (tgt := 50) dRacks_loosened_14 (by decide) (by omega) (by omega) (fun c => False.elim (by omega)) (fun _ => ?_)
    by_cases hs : f_has bl (nI k) = 0
    · refine a_aload_n 2 dRacks_loosened_17 rfl rfl ?_
      refine a_geti dRacks_loosened_18 fl6_41 rfl ly_80 (by omega) ?_
      rw [show (m_row I 80 f9) 80 1 = bl from hbl]
      refine a_iload_n 0 dRacks_loosened_21 rfl rfl ?_
      refine a_ishr dRacks_loosened_22 ?_
      refine a_iconstN (a := 1) dRacks_loosened_23 (by decide) ?_
      refine a_iand dRacks_loosened_24 ?_
      refine a_iconstN (a := 1) dRacks_loosened_25 (by decide) ?_
      refine a_icmp_ne (tgt := 44) dRacks_loosened_26 (by decide) (fun _ => ?_) (fun c => False.elim (has_1 c hs))
      refine a_iincN (lv' := [(3, .int (nI (k + 1))), (2, .int s), (0, .ref 80), (1, .ref o)]) (j := 0) dRacks_loosened_44 rfl (by decide) rfl ?_
      refine a_goto (tgt := 9) dRacks_loosened_47 (by decide) ?_
      have ez9 : loC I o nl bl s0 (k + 1) = s := by
        show loCS I o nl bl k (loC I o nl bl s0 k) = _
        rw [es]
        unfold loCS
        rw [if_pos hs]
      exact ih (k + 1) (by omega) s ez9
    · refine a_aload_n 2 dRacks_loosened_17 rfl rfl ?_
      refine a_geti dRacks_loosened_18 fl6_41 rfl ly_80 (by omega) ?_
      rw [show (m_row I 80 f9) 80 1 = bl from hbl]
      refine a_iload_n 0 dRacks_loosened_21 rfl rfl ?_
      refine a_ishr dRacks_loosened_22 ?_
      refine a_iconstN (a := 1) dRacks_loosened_23 (by decide) ?_
      refine a_iand dRacks_loosened_24 ?_
      refine a_iconstN (a := 1) dRacks_loosened_25 (by decide) ?_
      refine a_icmp_ne (tgt := 44) dRacks_loosened_26 (by decide) (fun c => False.elim (hs (has_0 c))) (fun _ => ?_)
      refine a_aload_n 3 dRacks_loosened_29 rfl rfl ?_
      refine a_iload_n 0 dRacks_loosened_30 rfl rfl ?_
      refine a_callS (Q' := m_res (some (.int (lrN (I (o + 6)) (nI k) nl (nI k) (nI k)))) (m_row I 80 f9) J R) (as := [.ref o, .int (nI k)]) (st := []) dRacks_loosened_31 ml6_57 rfl (Nat.le_of_ble_eq_true rfl) (Nat.le_of_ble_eq_true rfl) rfl (Nat.le_refl _) (Nat.le_refl _) (c_leastOfRing hn hR ho hr hon hh hnh hl hnl hW hH hM (by omega)) (m_go ?_)
      show AW _ _ _ _ _ _ _ _ [.int (lrN (I (o + 6)) (nI k) nl (nI k) (nI k))] _ _ _ _
      refine a_iload_n 0 dRacks_loosened_34 rfl rfl ?_
      refine a_icmp_ne (tgt := 44) dRacks_loosened_35 (by decide) (fun c35 => ?_) (fun c35 => ?_)
      · refine a_iincN (lv' := [(3, .int (nI (k + 1))), (2, .int s), (0, .ref 80), (1, .ref o)]) (j := 0) dRacks_loosened_44 rfl (by decide) rfl ?_
        refine a_goto (tgt := 9) dRacks_loosened_47 (by decide) ?_
        have ez9 : loC I o nl bl s0 (k + 1) = s := by
          show loCS I o nl bl k (loC I o nl bl s0 k) = _
          rw [es]
          unfold loCS
          rw [if_neg hs, if_neg c35]
        exact ih (k + 1) (by omega) s ez9
      · refine a_iload_n 1 dRacks_loosened_38 rfl rfl ?_
        refine a_iconstN (a := 1) dRacks_loosened_39 (by decide) ?_
        refine a_iload_n 0 dRacks_loosened_40 rfl rfl ?_
        refine a_ishl dRacks_loosened_41 ?_
        refine a_ior dRacks_loosened_42 ?_
        refine a_istore_n (lv' := [(2, .int (s ||| ((nI 1) <<< ((nI k) &&& 31)))), (3, .int (nI k)), (0, .ref 80), (1, .ref o)]) dRacks_loosened_43 rfl (by decide) rfl ?_
        refine a_iincN (lv' := [(3, .int (nI (k + 1))), (2, .int (s ||| ((nI 1) <<< ((nI k) &&& 31)))), (0, .ref 80), (1, .ref o)]) (j := 1) dRacks_loosened_44 rfl (by decide) rfl ?_
        refine a_goto (tgt := 9) dRacks_loosened_47 (by decide) ?_
        have ez9 : loC I o nl bl s0 (k + 1) = (s ||| ((nI 1) <<< ((nI k) &&& 31))) := by
          show loCS I o nl bl k (loC I o nl bl s0 k) = _
          rw [es]
          unfold loCS
          rw [if_neg hs, if_pos c35]
        exact ih (k + 1) (by omega) (s ||| ((nI 1) <<< ((nI k) &&& 31))) ez9
theorem c_loosened {S : Nat × (Nat → Int32)} {d n : Nat} {I : mI} {J : mJ} {R : mR} (hn : 122 ≤ n) (hR : m_fin R) {o nh nl : Nat} (ho : o ∈ m_offs) (hr : offR R o) (hon : o + 8 < n) (hh : I o 0 = nI nh) (hnh : nh ≤ 6) (hl : I o 1 = nI nl) (hnl : nl ≤ 10) (hW : WFc I o nl) (hH : WFh (I (o + 2)) nl) (hM : WFmC I o nl) {f : Nat → Int32} {P : Nat} (hP : 0 < P) (hP2 : P ≤ 1000) (hrp : rsC I o nl (rsC I o nl (af0 I o nl) 10) P = (rsC I o nl (af0 I o nl) 10)) (hn0 : ∀ j, 0 < j → j < P → ¬ rsC I o nl (rsC I o nl (af0 I o nl) 10) j = (rsC I o nl (af0 I o nl) 10))  : RUN S (d + 3) YRacks_loosened [.ref 80, .ref o] (m_row I 80 f) J R n (some (.int (loC I o nl (fbC (frT I o nl (rsC I o nl (af0 I o nl) 10) P) (nI 0) nl) (nI 0) nl))) (m_row I 80 (va_up (va_up f 0 (nI P)) 1 (fbC (frT I o nl (rsC I o nl (af0 I o nl) 10) P) (nI 0) nl))) J R n := by
  show AW S _ YRacks_loosened n n _ 0 [(0, .ref 80), (1, .ref o)] [] (m_row I 80 f) J R n
  refine a_aload_n 0 dRacks_loosened_0 rfl rfl ?_
  refine a_aload_n 1 dRacks_loosened_1 rfl rfl ?_
  refine a_callV (Q' := m_res none (m_row I 80 (va_up (va_up f 0 (nI P)) 1 (fbC (frT I o nl (rsC I o nl (af0 I o nl) 10) P) (nI 0) nl))) J R) (as := [.ref o]) (st := []) dRacks_loosened_2 ml6_53 rfl (Nat.le_of_ble_eq_true rfl) ly_80 rfl rfl (by decide) (by omega) (Nat.le_of_ble_eq_true rfl) rfl (Nat.le_refl _) (Nat.le_refl _) (c_findRing hn hR ho hr hon hh hnh hl hnl hW hH hP hP2 hrp hn0) (m_go ?_)
  show AW _ _ _ _ _ _ _ _ [] _ _ _ _
  refine a_iconstN (a := 0) dRacks_loosened_5 (by decide) ?_
  refine a_istore_n (lv' := [(2, .int (nI 0)), (0, .ref 80), (1, .ref o)]) dRacks_loosened_6 rfl (by decide) rfl ?_
  refine a_iconstN (a := 0) dRacks_loosened_7 (by decide) ?_
  refine a_istore_n (lv' := [(3, .int (nI 0)), (2, .int (nI 0)), (0, .ref 80), (1, .ref o)]) dRacks_loosened_8 rfl (by decide) rfl ?_
  refine l_loC (s0 := (nI 0)) hn hR ho hr hon hh hnh hl hnl hW hH hM (bl := (fbC (frT I o nl (rsC I o nl (af0 I o nl) 10) P) (nI 0) nl)) rfl ?_ nl 0 (by omega) _ rfl
  refine a_iload_n 1 dRacks_loosened_50 rfl rfl ?_
  exact a_iret dRacks_loosened_51 rfl ⟨rfl, rfl, rfl, rfl⟩
theorem M80_self {I : mI} : m_row I 80 (I 80) = I := m_row_self
theorem q_S_rack0 {S : Nat × (Nat → Int32)} {d n : Nat} {I : mI} {J : mJ} {R : mR} (hn : 122 ≤ n) (hR : m_fin R) {x : Int32} (h0 : f_of x (I 3 0) = 0) {y z : Int32}  : AW S (d + 4) YS_rack n n (qV I R (.int (-1))) 0 [(0, .ref 0), (1, .int x), (2, .int y), (3, .int z)] [] I J R n := by
  refine a_aload_n 0 dS_rack_0 rfl rfl ?_
  refine a_geta (r := 1) dS_rack_1 fl11_10 rfl ly_0 (by omega) (rf_0_0 hR) ?_
  refine a_iload_n 1 dS_rack_4 rfl rfl ?_
  refine a_callV (Q' := m_res (some (.null)) I J R) (as := [.int x]) (st := []) dS_rack_5 ml11_101 rfl (Nat.le_of_ble_eq_true rfl) ly_1 rfl rfl (by decide) (by omega) (Nat.le_of_ble_eq_true rfl) rfl (Nat.le_refl _) (Nat.le_refl _) (c_Told_officeAt0 hn hR h0) (m_go ?_)
  show AW _ _ _ _ _ _ _ _ [.null] _ _ _ _
  refine a_astoreN (lv' := [(4, .null), (0, .ref 0), (1, .int x), (2, .int y), (3, .int z)]) dS_rack_8 (by decide) rfl ?_
  refine a_aloadN 0 dS_rack_10 rfl ?_
  refine a_ifnullN (tgt := 35) dS_rack_12 (by decide) ?_
  refine a_iconst (v := -1) dS_rack_35 (by decide) ?_
  exact a_iret dS_rack_36 rfl ⟨rfl, KP.refl, (KF.refl hR)⟩
theorem q_S_rack1 {S : Nat × (Nat → Int32)} {d n : Nat} {I : mI} {J : mJ} {R : mR} (hn : 122 ≤ n) (hR : m_fin R) {o nh nl : Nat} (ho : o ∈ m_offs) (hr : offR R o) (hon : o + 8 < n) (hh : I o 0 = nI nh) (hnh : nh ≤ 6) (hl : I o 1 = nI nl) (hnl : nl ≤ 10) (hW : WFc I o nl) (hH : WFh (I (o + 2)) nl) {k : Nat} (h1 : f_of (nI k) (I 3 0) = 1) (hk : k < 2) (hro : R 4 k = some o) {y z : Int32} (hy : f_of y (nI nl) = 0 ∨ z < 0 ∨ nI 999 < z)  : AW S (d + 4) YS_rack n n (qV I R (.int (-1))) 0 [(0, .ref 0), (1, .int (nI k)), (2, .int y), (3, .int z)] [] I J R n := by
  refine a_aload_n 0 dS_rack_0 rfl rfl ?_
  refine a_geta (r := 1) dS_rack_1 fl11_10 rfl ly_0 (by omega) (rf_0_0 hR) ?_
  refine a_iload_n 1 dS_rack_4 rfl rfl ?_
  refine a_callV (Q' := m_res (some (.ref o)) I J R) (as := [.int (nI k)]) (st := []) dS_rack_5 ml11_101 rfl (Nat.le_of_ble_eq_true rfl) ly_1 rfl rfl (by decide) (by omega) (Nat.le_of_ble_eq_true rfl) rfl (Nat.le_refl _) (Nat.le_refl _) (c_Told_officeAt1 hn hR h1 hk hro) (m_go ?_)
  show AW _ _ _ _ _ _ _ _ [.ref o] _ _ _ _
  refine a_astore (lv' := [(4, .ref o), (0, .ref 0), (1, .int (nI k)), (2, .int y), (3, .int z)]) dS_rack_8 (by decide) rfl ?_
  refine a_aload 0 dS_rack_10 rfl ?_
  refine a_ifnull dS_rack_12 ?_
  refine a_aload 0 dS_rack_15 rfl ?_
  refine a_iload_n 3 dS_rack_17 rfl rfl ?_
  refine a_callV (Q' := m_res (some (.int (f_of y (nI nl)))) I J R) (as := [.int y]) (st := []) dS_rack_18 ml11_111 rfl (Nat.le_of_ble_eq_true rfl) (of_l0 ho) rfl rfl (by decide) (by omega) (Nat.le_of_ble_eq_true rfl) rfl (Nat.le_refl _) (Nat.le_refl _) (by have h := c_Office_hasLetter (S := S) (d := d + 3) (n := n) (J := J) (R := R) (I := I) (h := y) ho hr hon; rw [hl] at h; exact h) (m_go ?_)
  show AW _ _ _ _ _ _ _ _ [.int (f_of y (nI nl))] _ _ _ _
  refine a_if_eq (tgt := 35) dS_rack_21 (by decide) (fun c21 => ?_) (fun c21 => ?_)
  · refine a_iconst (v := -1) dS_rack_35 (by decide) ?_
    exact a_iret dS_rack_36 rfl ⟨rfl, KP.refl, (KF.refl hR)⟩
  · refine a_iload_n 4 dS_rack_24 rfl rfl ?_
    refine a_if_lt (tgt := 35) dS_rack_25 (by decide) (fun c25 => ?_) (fun c25 => ?_)
    · refine a_iconst (v := -1) dS_rack_35 (by decide) ?_
      exact a_iret dS_rack_36 rfl ⟨rfl, KP.refl, (KF.refl hR)⟩
    · refine a_iload_n 4 dS_rack_28 rfl rfl ?_
      refine a_sipushN (a := 999) dS_rack_29 (by decide) ?_
      refine a_icmp_le (tgt := 37) dS_rack_32 (by decide) (fun c32 => ?_) (fun c32 => ?_)
      · exfalso
        rcases hy with h | h | h
        · exact c21 h
        · exact c25 h
        · exact absurd c32 (Int32.not_le.mpr h)
      · refine a_iconst (v := -1) dS_rack_35 (by decide) ?_
        exact a_iret dS_rack_36 rfl ⟨rfl, KP.refl, (KF.refl hR)⟩
theorem q_S_rack2 {S : Nat × (Nat → Int32)} {d n : Nat} {I : mI} {J : mJ} {R : mR} (hn : 122 ≤ n) (hR : m_fin R) {o nh nl : Nat} (ho : o ∈ m_offs) (hr : offR R o) (hon : o + 8 < n) (hh : I o 0 = nI nh) (hnh : nh ≤ 6) (hl : I o 1 = nI nl) (hnl : nl ≤ 10) (hW : WFc I o nl) (hH : WFh (I (o + 2)) nl) {k : Nat} (h1 : f_of (nI k) (I 3 0) = 1) (hk : k < 2) (hro : R 4 k = some o) {l N : Nat} (hln : l < nl) (hN : N ≤ 999)  : AW S (d + 4) YS_rack n n (qV I R (.int (rkO (rsC I o nl (af0 I o nl) N) (nI l)))) 0 [(0, .ref 0), (1, .int (nI k)), (2, .int (nI l)), (3, .int (nI N))] [] I J R n := by
  refine a_aload_n 0 dS_rack_0 rfl rfl ?_
  refine a_geta (r := 1) dS_rack_1 fl11_10 rfl ly_0 (by omega) (rf_0_0 hR) ?_
  refine a_iload_n 1 dS_rack_4 rfl rfl ?_
  refine a_callV (Q' := m_res (some (.ref o)) I J R) (as := [.int (nI k)]) (st := []) dS_rack_5 ml11_101 rfl (Nat.le_of_ble_eq_true rfl) ly_1 rfl rfl (by decide) (by omega) (Nat.le_of_ble_eq_true rfl) rfl (Nat.le_refl _) (Nat.le_refl _) (c_Told_officeAt1 hn hR h1 hk hro) (m_go ?_)
  show AW _ _ _ _ _ _ _ _ [.ref o] _ _ _ _
  refine a_astore (lv' := [(4, .ref o), (0, .ref 0), (1, .int (nI k)), (2, .int (nI l)), (3, .int (nI N))]) dS_rack_8 (by decide) rfl ?_
  refine a_aload 0 dS_rack_10 rfl ?_
  refine a_ifnull dS_rack_12 ?_
  refine a_aload 0 dS_rack_15 rfl ?_
  refine a_iload_n 3 dS_rack_17 rfl rfl ?_
  refine a_callV (Q' := m_res (some (.int (f_of (nI l) (nI nl)))) I J R) (as := [.int (nI l)]) (st := []) dS_rack_18 ml11_111 rfl (Nat.le_of_ble_eq_true rfl) (of_l0 ho) rfl rfl (by decide) (by omega) (Nat.le_of_ble_eq_true rfl) rfl (Nat.le_refl _) (Nat.le_refl _) (by have h := c_Office_hasLetter (S := S) (d := d + 3) (n := n) (J := J) (R := R) (I := I) (h := (nI l)) ho hr hon; rw [hl] at h; exact h) (m_go ?_)
  show AW _ _ _ _ _ _ _ _ [.int (f_of (nI l) (nI nl))] _ _ _ _
  refine a_if_eq (tgt := 35) dS_rack_21 (by decide) (fun c => False.elim (absurd c (by rw [f_of_n (by omega) hln]; decide))) (fun _ => ?_)
  refine a_iload_n 4 dS_rack_24 rfl rfl ?_
  refine a_if_lt (tgt := 35) dS_rack_25 (by decide) (fun c => False.elim (nI_pos (by omega) c)) (fun _ => ?_)
  refine a_iload_n 4 dS_rack_28 rfl rfl ?_
  refine a_sipushN (a := 999) dS_rack_29 (by decide) ?_
  refine a_icmp_leN (tgt := 37) dS_rack_32 (by decide) (by omega) (by omega) (fun _ => ?_) (fun c => False.elim (by omega))
  refine a_aload_n 1 dS_rack_37 rfl rfl ?_
  refine a_geta (r := 80) dS_rack_38 fl11_44 rfl ly_0 (by omega) (rf_0_5 hR) ?_
  refine a_aload 0 dS_rack_41 rfl ?_
  refine a_iload_n 3 dS_rack_43 rfl rfl ?_
  refine a_iload_n 4 dS_rack_44 rfl rfl ?_
  refine a_callV (Q' := m_res (some (.int (rkO (rsC I o nl (af0 I o nl) N) (nI l)))) I J R) (as := [.ref o, .int (nI l), .int (nI N)]) (st := []) dS_rack_45 ml11_160 rfl (Nat.le_of_ble_eq_true rfl) ly_80 rfl rfl (by decide) (by omega) (Nat.le_of_ble_eq_true rfl) rfl (Nat.le_refl _) (Nat.le_refl _) (c_Racks_rackOf hn hR ho hr hon hh hnh hl hnl hW hH (by omega)) (m_go ?_)
  show AW _ _ _ _ _ _ _ _ [.int (rkO (rsC I o nl (af0 I o nl) N) (nI l))] _ _ _ _
  exact a_iret dS_rack_48 rfl ⟨rfl, KP.refl, (KF.refl hR)⟩
theorem q_S_settled0 {S : Nat × (Nat → Int32)} {d n : Nat} {I : mI} {J : mJ} {R : mR} (hn : 122 ≤ n) (hR : m_fin R) {x : Int32} (h0 : f_of x (I 3 0) = 0) {y : Int32}  : AW S (d + 4) YS_settled n n (qV I R (.int (-2))) 0 [(0, .ref 0), (1, .int x), (2, .int y)] [] I J R n := by
  refine a_aload_n 0 dS_settled_0 rfl rfl ?_
  refine a_geta (r := 1) dS_settled_1 fl11_10 rfl ly_0 (by omega) (rf_0_0 hR) ?_
  refine a_iload_n 1 dS_settled_4 rfl rfl ?_
  refine a_callV (Q' := m_res (some (.null)) I J R) (as := [.int x]) (st := []) dS_settled_5 ml11_101 rfl (Nat.le_of_ble_eq_true rfl) ly_1 rfl rfl (by decide) (by omega) (Nat.le_of_ble_eq_true rfl) rfl (Nat.le_refl _) (Nat.le_refl _) (c_Told_officeAt0 hn hR h0) (m_go ?_)
  show AW _ _ _ _ _ _ _ _ [.null] _ _ _ _
  refine a_astore_nN (lv' := [(3, .null), (0, .ref 0), (1, .int x), (2, .int y)]) dS_settled_8 rfl (by decide) rfl ?_
  refine a_aload_nN 0 dS_settled_9 rfl rfl ?_
  refine a_ifnullN (tgt := 22) dS_settled_10 (by decide) ?_
  refine a_bipush (v := -2) dS_settled_22 (by decide) ?_
  exact a_iret dS_settled_24 rfl ⟨rfl, KP.refl, (KF.refl hR)⟩
theorem q_S_settled1 {S : Nat × (Nat → Int32)} {d n : Nat} {I : mI} {J : mJ} {R : mR} (hn : 122 ≤ n) (hR : m_fin R) {o nh nl : Nat} (ho : o ∈ m_offs) (hr : offR R o) (hon : o + 8 < n) (hh : I o 0 = nI nh) (hnh : nh ≤ 6) (hl : I o 1 = nI nl) (hnl : nl ≤ 10) (hW : WFc I o nl) (hH : WFh (I (o + 2)) nl) {k : Nat} (h1 : f_of (nI k) (I 3 0) = 1) (hk : k < 2) (hro : R 4 k = some o) {y : Int32} (hy : y < 0 ∨ nI 2 < y)  : AW S (d + 4) YS_settled n n (qV I R (.int (-2))) 0 [(0, .ref 0), (1, .int (nI k)), (2, .int y)] [] I J R n := by
  refine a_aload_n 0 dS_settled_0 rfl rfl ?_
  refine a_geta (r := 1) dS_settled_1 fl11_10 rfl ly_0 (by omega) (rf_0_0 hR) ?_
  refine a_iload_n 1 dS_settled_4 rfl rfl ?_
  refine a_callV (Q' := m_res (some (.ref o)) I J R) (as := [.int (nI k)]) (st := []) dS_settled_5 ml11_101 rfl (Nat.le_of_ble_eq_true rfl) ly_1 rfl rfl (by decide) (by omega) (Nat.le_of_ble_eq_true rfl) rfl (Nat.le_refl _) (Nat.le_refl _) (c_Told_officeAt1 hn hR h1 hk hro) (m_go ?_)
  show AW _ _ _ _ _ _ _ _ [.ref o] _ _ _ _
  refine a_astore_n (lv' := [(3, .ref o), (0, .ref 0), (1, .int (nI k)), (2, .int y)]) dS_settled_8 rfl (by decide) rfl ?_
  refine a_aload_n 0 dS_settled_9 rfl rfl ?_
  refine a_ifnull dS_settled_10 ?_
  refine a_iload_n 3 dS_settled_13 rfl rfl ?_
  refine a_if_lt (tgt := 22) dS_settled_14 (by decide) (fun c14 => ?_) (fun c14 => ?_)
  · refine a_bipush (v := -2) dS_settled_22 (by decide) ?_
    exact a_iret dS_settled_24 rfl ⟨rfl, KP.refl, (KF.refl hR)⟩
  · refine a_iload_n 3 dS_settled_17 rfl rfl ?_
    refine a_iconstN (a := 2) dS_settled_18 (by decide) ?_
    refine a_icmp_le (tgt := 25) dS_settled_19 (by decide) (fun c19 => ?_) (fun c19 => ?_)
    · exfalso
      rcases hy with h | h
      · exact c14 h
      · exact absurd c19 (Int32.not_le.mpr h)
    · refine a_bipush (v := -2) dS_settled_22 (by decide) ?_
      exact a_iret dS_settled_24 rfl ⟨rfl, KP.refl, (KF.refl hR)⟩
theorem q_S_settled2 {S : Nat × (Nat → Int32)} {d n : Nat} {I : mI} {J : mJ} {R : mR} (hn : 122 ≤ n) (hR : m_fin R) {o nh nl : Nat} (ho : o ∈ m_offs) (hr : offR R o) (hon : o + 8 < n) (hh : I o 0 = nI nh) (hnh : nh ≤ 6) (hl : I o 1 = nI nl) (hnl : nl ≤ 10) (hW : WFc I o nl) (hH : WFh (I (o + 2)) nl) {k : Nat} (h1 : f_of (nI k) (I 3 0) = 1) (hk : k < 2) (hro : R 4 k = some o) {v : Int32} (hv : ∀ v2, seC I o nl v2 → v2 = v) : AW S (d + 4) YS_settled n n (qV I R (.int v)) 0 [(0, .ref 0), (1, .int (nI k)), (2, .int (nI 0))] [] I J R n := by
  refine a_aload_n 0 dS_settled_0 rfl rfl ?_
  refine a_geta (r := 1) dS_settled_1 fl11_10 rfl ly_0 (by omega) (rf_0_0 hR) ?_
  refine a_iload_n 1 dS_settled_4 rfl rfl ?_
  refine a_callV (Q' := m_res (some (.ref o)) I J R) (as := [.int (nI k)]) (st := []) dS_settled_5 ml11_101 rfl (Nat.le_of_ble_eq_true rfl) ly_1 rfl rfl (by decide) (by omega) (Nat.le_of_ble_eq_true rfl) rfl (Nat.le_refl _) (Nat.le_refl _) (c_Told_officeAt1 hn hR h1 hk hro) (m_go ?_)
  show AW _ _ _ _ _ _ _ _ [.ref o] _ _ _ _
  refine a_astore_n (lv' := [(3, .ref o), (0, .ref 0), (1, .int (nI k)), (2, .int (nI 0))]) dS_settled_8 rfl (by decide) rfl ?_
  refine a_aload_n 0 dS_settled_9 rfl rfl ?_
  refine a_ifnull dS_settled_10 ?_
  refine a_iload_n 3 dS_settled_13 rfl rfl ?_
  refine a_if_lt (tgt := 22) dS_settled_14 (by decide) (fun c => False.elim (nI_pos (by omega) c)) (fun _ => ?_)
  refine a_iload_n 3 dS_settled_17 rfl rfl ?_
  refine a_iconstN (a := 2) dS_settled_18 (by decide) ?_
  refine a_icmp_leN (tgt := 25) dS_settled_19 (by decide) (by omega) (by omega) (fun _ => ?_) (fun c => False.elim (by omega))
  refine a_iload_n 3 dS_settled_25 rfl rfl ?_
  refine a_if_ne (tgt := 38) dS_settled_26 (by decide) (fun c => False.elim (c rfl)) (fun _ => ?_)
  refine a_aload_n 1 dS_settled_29 rfl rfl ?_
  refine a_geta (r := 80) dS_settled_30 fl11_44 rfl ly_0 (by omega) (rf_0_5 hR) ?_
  refine a_aload_n 0 dS_settled_33 rfl rfl ?_
  refine a_callV (Q' := fun v2 I2 J2 R2 => ∃ v3, v2 = some (.int v3) ∧ seC I o nl v3 ∧ I2 = I ∧ J2 = J ∧ R2 = R) (as := [.ref o]) (st := []) dS_settled_34 ml11_164 rfl (Nat.le_of_ble_eq_true rfl) ly_80 rfl rfl (by decide) (by omega) (Nat.le_of_ble_eq_true rfl) rfl (Nat.le_refl _) (Nat.le_refl _) (b_settledBehind hn hR ho hr hon hh hnh hl hnl hW hH (fun v3 h3 => ⟨v3, rfl, h3, rfl, rfl, rfl⟩)) ?_
  intro v2 I2 J2 R2 ⟨v3, e1, h3, e2, e3, e4⟩
  subst e1
  rw [e2, e3, e4, hv v3 h3]
  show AW _ _ _ _ _ _ _ _ [.int v] _ _ _ _
  exact a_iret dS_settled_37 rfl ⟨rfl, KP.refl, (KF.refl hR)⟩
theorem q_S_settled3 {S : Nat × (Nat → Int32)} {d n : Nat} {I : mI} {J : mJ} {R : mR} (hn : 122 ≤ n) (hR : m_fin R) {o nh nl : Nat} (ho : o ∈ m_offs) (hr : offR R o) (hon : o + 8 < n) (hh : I o 0 = nI nh) (hnh : nh ≤ 6) (hl : I o 1 = nI nl) (hnl : nl ≤ 10) (hW : WFc I o nl) (hH : WFh (I (o + 2)) nl) {k : Nat} (h1 : f_of (nI k) (I 3 0) = 1) (hk : k < 2) (hro : R 4 k = some o) {P : Nat} (hP : 0 < P) (hP2 : P ≤ 1000) (hrp : rsC I o nl (rsC I o nl (af0 I o nl) 10) P = (rsC I o nl (af0 I o nl) 10)) (hn0 : ∀ j, 0 < j → j < P → ¬ rsC I o nl (rsC I o nl (af0 I o nl) 10) j = (rsC I o nl (af0 I o nl) 10)) {t : Nat} (ht : t = 1 ∨ t = 2)  : AW S (d + 4) YS_settled n n (qV I R (.int (if t = 1 then nI P else (fbC (frT I o nl (rsC I o nl (af0 I o nl) 10) P) (nI 0) nl)))) 0 [(0, .ref 0), (1, .int (nI k)), (2, .int (nI t))] [] I J R n := by
  refine a_aload_n 0 dS_settled_0 rfl rfl ?_
  refine a_geta (r := 1) dS_settled_1 fl11_10 rfl ly_0 (by omega) (rf_0_0 hR) ?_
  refine a_iload_n 1 dS_settled_4 rfl rfl ?_
  refine a_callV (Q' := m_res (some (.ref o)) I J R) (as := [.int (nI k)]) (st := []) dS_settled_5 ml11_101 rfl (Nat.le_of_ble_eq_true rfl) ly_1 rfl rfl (by decide) (by omega) (Nat.le_of_ble_eq_true rfl) rfl (Nat.le_refl _) (Nat.le_refl _) (c_Told_officeAt1 hn hR h1 hk hro) (m_go ?_)
  show AW _ _ _ _ _ _ _ _ [.ref o] _ _ _ _
  refine a_astore_n (lv' := [(3, .ref o), (0, .ref 0), (1, .int (nI k)), (2, .int (nI t))]) dS_settled_8 rfl (by decide) rfl ?_
  refine a_aload_n 0 dS_settled_9 rfl rfl ?_
  refine a_ifnull dS_settled_10 ?_
  refine a_iload_n 3 dS_settled_13 rfl rfl ?_
  refine a_if_lt (tgt := 22) dS_settled_14 (by decide) (fun c => False.elim (nI_pos (by omega) c)) (fun _ => ?_)
  refine a_iload_n 3 dS_settled_17 rfl rfl ?_
  refine a_iconstN (a := 2) dS_settled_18 (by decide) ?_
  refine a_icmp_leN (tgt := 25) dS_settled_19 (by decide) (by omega) (by omega) (fun _ => ?_) (fun c => False.elim (by omega))
  refine a_iload_n 3 dS_settled_25 rfl rfl ?_
  refine a_if_ne (tgt := 38) dS_settled_26 (by decide) (fun _ => ?_) (fun c => False.elim (nI_ne0 (by omega) (by omega) c))
  refine a_aload_n 1 dS_settled_38 rfl rfl ?_
  refine a_geta (r := 80) dS_settled_39 fl11_44 rfl ly_0 (by omega) (rf_0_5 hR) ?_
  refine a_aload_n 0 dS_settled_42 rfl rfl ?_
  refine a_callV (Q' := m_res none (m_row I 80 (va_up (va_up (I 80) 0 (nI P)) 1 (fbC (frT I o nl (rsC I o nl (af0 I o nl) 10) P) (nI 0) nl))) J R) (as := [.ref o]) (st := []) dS_settled_43 ml11_168 rfl (Nat.le_of_ble_eq_true rfl) ly_80 rfl rfl (by decide) (by omega) (Nat.le_of_ble_eq_true rfl) rfl (Nat.le_refl _) (Nat.le_refl _) (by have h := c_findRing (S := S) (d := d + 1) (J := J) (f := I 80) hn hR ho hr hon hh hnh hl hnl hW hH hP hP2 hrp hn0; rw [M80_self] at h; exact h) (m_go ?_)
  show AW _ _ _ _ _ _ _ _ [] _ _ _ _
  refine a_iload_n 3 dS_settled_46 rfl rfl ?_
  refine a_iconstN (a := 1) dS_settled_47 (by decide) ?_
  refine a_icmp_neN (tgt := 61) dS_settled_48 (by decide) (by omega) (by omega) (fun c48 => ?_) (fun c48 => ?_)
  · refine a_aload_n 1 dS_settled_61 rfl rfl ?_
    refine a_geta (r := 80) dS_settled_62 fl11_44 rfl ly_0 (by omega) (rf_0_5 hR) ?_
    refine a_geti dS_settled_65 fl11_175 rfl ly_80 (by omega) ?_
    rw [show (m_row I 80 (va_up (va_up (I 80) 0 (nI P)) 1 (fbC (frT I o nl (rsC I o nl (af0 I o nl) 10) P) (nI 0) nl))) 80 1 = (fbC (frT I o nl (rsC I o nl (af0 I o nl) 10) P) (nI 0) nl) from rfl]
    exact a_iret dS_settled_68 rfl ⟨(by rw [if_neg (show ¬ t = 1 by omega)]), (KP.row KP.refl (by omega)), (KF.refl hR)⟩
  · refine a_aload_n 1 dS_settled_51 rfl rfl ?_
    refine a_geta (r := 80) dS_settled_52 fl11_44 rfl ly_0 (by omega) (rf_0_5 hR) ?_
    refine a_geti dS_settled_55 fl11_172 rfl ly_80 (by omega) ?_
    rw [show (m_row I 80 (va_up (va_up (I 80) 0 (nI P)) 1 (fbC (frT I o nl (rsC I o nl (af0 I o nl) 10) P) (nI 0) nl))) 80 0 = (nI P) from rfl]
    refine a_goto (tgt := 68) dS_settled_58 (by decide) ?_
    exact a_iret dS_settled_68 rfl ⟨(by rw [if_pos (show t = 1 by omega)]), (KP.row KP.refl (by omega)), (KF.refl hR)⟩
