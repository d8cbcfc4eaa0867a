theorem roN_eq {I I' : mI} {ko : Nat} (h2 : oR I' ko = oR I ko) {r lo s0 : Int32} : ∀ k, roN I' ko r lo s0 k = roN I ko r lo s0 k := by
  intro k
  induction k with
  | zero => rfl
  | succ k ih =>
    show roNS I' ko r lo k (roN I' ko r lo s0 k) = roNS I ko r lo k (roN I ko r lo s0 k)
    rw [ih]
    unfold roNS
    rw [h2]
/-- from a ring's first racks on -/
abbrev ptN (I : mI) (ko nl : Nat) (f : Int32) (k : Nat) : Int32 := rsN I ko nl (nI 0) f k
def peAS (f r : Int32) (k : Nat) (s : Int32) : Int32 := (if (rkO r (nI k)) = (rkO f (nI k)) then (s ||| (nI 0)) else (s ||| ((nI 1) <<< ((nI k) &&& 31))))
def peA (f r : Int32) (s0 : Int32) : Nat → Int32
  | 0 => s0
  | k + 1 => peAS f r k (peA f r s0 k)
theorem l_peA {S : Nat × (Nat → Int32)} {d n : Nat} {I : mI} {J : mJ} {R : mR} {ko nh nl : Nat} (hn : 122 ≤ n) (hR : m_fin R) (ho : I 95 23 = nI ko) (hk : ko < 7) (hh : I 95 24 = nI nh) (hnh : nh ≤ 6) (hl : I 95 25 = nI nl) (hnl : nl ≤ 10) (hW : WFk I ko) {f r : Int32} {q : Nat}  {s0 : Int32} {Q : Option Value → mI → mJ → mR → Prop}  (hx : AW S (d + 4) YM_period n n Q 77 [(4, .int (nI nl)), (0, .ref 95), (1, .int f), (2, .int r), (3, .int (nI q))] [] (m_row I 95 (va_up (I 95) 40 (peA f r s0 nl))) J R n) : ∀ m k, k + m = nl → ∀ s : Int32, peA f r s0 k = s → AW S (d + 4) YM_period n n Q 30 [(4, .int (nI k)), (0, .ref 95), (1, .int f), (2, .int r), (3, .int (nI q))] [] (m_row I 95 (va_up (I 95) 40 s)) J R n := by
  intro m
  induction m with
  | zero =>
    intro k hk9 s es
    rw [show k = nl by omega] at es ⊢
    subst es
    refine a_iload 0 dM_period_30 rfl ?_
    refine a_aload_n 1 dM_period_32 rfl rfl ?_
    refine a_geti dM_period_33 fl12_262 rfl ly_95 (by omega) ?_
    rw [show (m_row I 95 (va_up (I 95) 40 (peA f r s0 nl))) 95 25 = (nI nl) from hl]
    refine a_icmp_geN (tgt := 77) dM_period_36 (by decide) (by omega) (by omega) (fun _ => ?_) (fun c => False.elim (by omega))
    exact hx
  | succ m ih =>
    intro k hk9 s es
    refine a_iload 0 dM_period_30 rfl ?_
    refine a_aload_n 1 dM_period_32 rfl rfl ?_
    refine a_geti dM_period_33 fl12_262 rfl ly_95 (by omega) ?_
    rw [show (m_row I 95 (va_up (I 95) 40 s)) 95 25 = (nI nl) from hl]
    refine a_icmp_geN (tgt := 77) dM_period_36 (by decide) (by omega) (by omega) (fun c => False.elim (by omega)) (fun _ => ?_)
    refine a_aload_n 1 dM_period_39 rfl rfl ?_
    refine a_dup dM_period_40 rfl ?_
    refine a_geti dM_period_41 fl12_408 rfl ly_95 (by omega) ?_
    rw [show (m_row I 95 (va_up (I 95) 40 s)) 95 40 = s from rfl]
    refine a_iload_n 3 dM_period_44 rfl rfl ?_
    refine a_iload 0 dM_period_45 rfl ?_
    refine a_callS (Q' := m_res (some (.int (rkO r (nI k)))) (m_row I 95 (va_up (I 95) 40 s)) J R) (as := [.int r, .int (nI k)]) (st := [.int s, .ref 95]) dM_period_47 ml12_399 rfl (Nat.le_of_ble_eq_true rfl) (Nat.le_of_ble_eq_true rfl) rfl (Nat.le_refl _) (Nat.le_refl _) c_M_rackOf (m_go ?_)
    show AW _ _ _ _ _ _ _ _ [.int (rkO r (nI k)), .int s, .ref 95] _ _ _ _
    refine a_iload_n 2 dM_period_50 rfl rfl ?_
    refine a_iload 0 dM_period_51 rfl ?_
    refine a_callS (Q' := m_res (some (.int (rkO f (nI k)))) (m_row I 95 (va_up (I 95) 40 s)) J R) (as := [.int f, .int (nI k)]) (st := [.int (rkO r (nI k)), .int s, .ref 95]) dM_period_53 ml12_399 rfl (Nat.le_of_ble_eq_true rfl) (Nat.le_of_ble_eq_true rfl) rfl (Nat.le_refl _) (Nat.le_refl _) c_M_rackOf (m_go ?_)
    show AW _ _ _ _ _ _ _ _ [.int (rkO f (nI k)), .int (rkO r (nI k)), .int s, .ref 95] _ _ _ _
    refine a_icmp_eq (tgt := 66) dM_period_56 (by decide) (fun c56 => ?_) (fun c56 => ?_)
    · refine a_iconstN (a := 0) dM_period_66 (by decide) ?_
      refine a_ior dM_period_67 ?_
      refine a_puti dM_period_68 fl12_408 rfl ly_95 (by omega) ?_
      rw [show m_up (m_row I 95 (va_up (I 95) 40 s)) 95 40 (s ||| (nI 0)) = (m_row I 95 (va_up (I 95) 40 (s ||| (nI 0)))) from (by rw [m_up_r, show va_up (va_up (I 95) 40 s) 40 (s ||| (nI 0)) = (va_up (I 95) 40 (s ||| (nI 0))) from va_uu])]
      refine a_iincN (lv' := [(4, .int (nI (k + 1))), (0, .ref 95), (1, .int f), (2, .int r), (3, .int (nI q))]) (j := 0) dM_period_71 rfl (by decide) rfl ?_
      refine a_goto (tgt := 30) dM_period_74 (by decide) ?_
      have ez9 : peA f r s0 (k + 1) = (s ||| (nI 0)) := by
        show peAS f r k (peA f r s0 k) = _
        rw [es]
        unfold peAS
        rw [if_pos c56]
      exact ih (k + 1) (by omega) (s ||| (nI 0)) ez9
    · refine a_iconstN (a := 1) dM_period_59 (by decide) ?_
      refine a_iload 0 dM_period_60 rfl ?_
      refine a_ishl dM_period_62 ?_
      refine a_goto (tgt := 67) dM_period_63 (by decide) ?_
      refine a_ior dM_period_67 ?_
      refine a_puti dM_period_68 fl12_408 rfl ly_95 (by omega) ?_
      rw [show m_up (m_row I 95 (va_up (I 95) 40 s)) 95 40 (s ||| ((nI 1) <<< ((nI k) &&& 31))) = (m_row I 95 (va_up (I 95) 40 (s ||| ((nI 1) <<< ((nI k) &&& 31))))) from (by rw [m_up_r, show va_up (va_up (I 95) 40 s) 40 (s ||| ((nI 1) <<< ((nI k) &&& 31))) = (va_up (I 95) 40 (s ||| ((nI 1) <<< ((nI k) &&& 31)))) from va_uu])]
      refine a_iincN (lv' := [(4, .int (nI (k + 1))), (0, .ref 95), (1, .int f), (2, .int r), (3, .int (nI q))]) (j := 0) dM_period_71 rfl (by decide) rfl ?_
      refine a_goto (tgt := 30) dM_period_74 (by decide) ?_
      have ez9 : peA f r s0 (k + 1) = (s ||| ((nI 1) <<< ((nI k) &&& 31))) := by
        show peAS f r k (peA f r s0 k) = _
        rw [es]
        unfold peAS
        rw [if_neg c56]
      exact ih (k + 1) (by omega) (s ||| ((nI 1) <<< ((nI k) &&& 31))) ez9
def peNS (I : mI) (ko nl : Nat) (f : Int32) (k : Nat) (s : Int32) : Int32 := (peA f (ptN I ko nl f (k + 1)) s nl)
def peN (I : mI) (ko nl : Nat) (f : Int32) (s0 : Int32) : Nat → Int32
  | 0 => s0
  | k + 1 => peNS I ko nl f k (peN I ko nl f s0 k)
theorem l_peN {S : Nat × (Nat → Int32)} {d n : Nat} {I : mI} {J : mJ} {R : mR} {ko nh nl : Nat} (hn : 122 ≤ n) (hR : m_fin R) (ho : I 95 23 = nI ko) (hk : ko < 7) (hh : I 95 24 = nI nh) (hnh : nh ≤ 6) (hl : I 95 25 = nI nl) (hnl : nl ≤ 10) (hW : WFk I ko) {f : Int32} {P : Nat} (hP : 0 < P) (hr : ptN I ko nl f P = f) (hn0 : ∀ j, 0 < j → j < P → ¬ ptN I ko nl f j = f)  {s0 : Int32} {Q : Option Value → mI → mJ → mR → Prop}  (hx : AW S (d + 4) YM_period n n Q 90 [(3, .int (nI ((P - 1) + 1))), (0, .ref 95), (1, .int f), (2, .int (ptN I ko nl f ((P - 1) + 1)))] [] (m_row I 95 (va_up (I 95) 40 (peN I ko nl f s0 (P - 1)))) J R n) : ∀ m k, k + m = (P - 1) → ∀ s : Int32, peN I ko nl f s0 k = s → AW S (d + 4) YM_period n n Q 22 [(3, .int (nI (k + 1))), (0, .ref 95), (1, .int f), (2, .int (ptN I ko nl f (k + 1)))] [] (m_row I 95 (va_up (I 95) 40 s)) J R n := by
  intro m
  induction m with
  | zero =>
    intro k hk9 s es
    rw [show k = (P - 1) by omega] at es ⊢
    subst es
    refine a_iload_n 3 dM_period_22 rfl rfl ?_
    refine a_iload_n 2 dM_period_23 rfl rfl ?_
    refine a_icmp_eq (tgt := 90) dM_period_24 (by decide) (fun _ => ?_) (fun c => False.elim (c (by rw [show P - 1 + 1 = P by omega]; exact hr)))
    exact hx
  | succ m ih =>
    intro k hk9 s es
    refine a_iload_n 3 dM_period_22 rfl rfl ?_
    refine a_iload_n 2 dM_period_23 rfl rfl ?_
    refine a_icmp_eq (tgt := 90) dM_period_24 (by decide) (fun c => False.elim (hn0 (k + 1) (by omega) (by omega) c)) (fun _ => ?_)
    refine a_iconstN (a := 0) dM_period_27 (by decide) ?_
    refine a_istore (lv' := [(4, .int (nI 0)), (3, .int (nI (k + 1))), (0, .ref 95), (1, .int f), (2, .int (ptN I ko nl f (k + 1)))]) dM_period_28 (by decide) rfl ?_
    refine a_locs (lv' := [(4, .int (nI 0)), (0, .ref 95), (1, .int f), (2, .int (ptN I ko nl f (k + 1))), (3, .int (nI (k + 1)))]) [0, 2, 3, 4, 1] rfl ?_
    refine l_peA (s0 := s) hn hR ho hk hh hnh hl hnl hW (f := f) (r := ptN I ko nl f (k + 1)) (q := k + 1) ?_ nl 0 (by omega) _ rfl
    refine a_aload_n 1 dM_period_77 rfl rfl ?_
    refine a_iload_n 3 dM_period_78 rfl rfl ?_
    refine a_iconstN (a := 0) dM_period_79 (by decide) ?_
    refine a_callV (Q' := m_res (some (.int (roR I ko nl (ptN I ko nl f (k + 1)) (nI 0)))) (m_row I 95 (va_up (I 95) 40 (peA f (ptN I ko nl f (k + 1)) s nl))) J R) (as := [.int (ptN I ko nl f (k + 1)), .int (nI 0)]) (st := []) dM_period_80 ml12_402 rfl (Nat.le_of_ble_eq_true rfl) ly_95 rfl rfl (by decide) (by omega) (Nat.le_of_ble_eq_true rfl) rfl (Nat.le_refl _) (Nat.le_refl _) (by have h := c_M_round (S := S) (d := d + 1) (n := n) (J := J) (R := R) (I := (m_row I 95 (va_up (I 95) 40 (peA f (ptN I ko nl f (k + 1)) s nl)))) (r := (ptN I ko nl f (k + 1))) (lo := (nI 0)) hn hR ho hk hh hnh hl hnl hW; rw [show roR (m_row I 95 (va_up (I 95) 40 (peA f (ptN I ko nl f (k + 1)) s nl))) ko nl (ptN I ko nl f (k + 1)) (nI 0) = roR I ko nl (ptN I ko nl f (k + 1)) (nI 0) from roN_eq (I := I) (I' := (m_row I 95 (va_up (I 95) 40 (peA f (ptN I ko nl f (k + 1)) s nl)))) rfl nl] at h; exact h) (m_go ?_)
    show AW _ _ _ _ _ _ _ _ [.int (roR I ko nl (ptN I ko nl f (k + 1)) (nI 0))] _ _ _ _
    refine a_istore_n (lv' := [(2, .int (roR I ko nl (ptN I ko nl f (k + 1)) (nI 0))), (4, .int (nI nl)), (0, .ref 95), (1, .int f), (3, .int (nI (k + 1)))]) dM_period_83 rfl (by decide) rfl ?_
    refine a_iincN (lv' := [(3, .int (nI ((k + 1) + 1))), (2, .int (roR I ko nl (ptN I ko nl f (k + 1)) (nI 0))), (4, .int (nI nl)), (0, .ref 95), (1, .int f)]) (j := 4) dM_period_84 rfl (by decide) rfl ?_
    refine a_goto (tgt := 22) dM_period_87 (by decide) ?_
    have ez9 : peN I ko nl f s0 (k + 1) = (peA f (ptN I ko nl f (k + 1)) s nl) := by
      show peNS I ko nl f k (peN I ko nl f s0 k) = _
      rw [es]
      unfold peNS
      rfl
    refine a_locs (lv' := [(3, .int (nI ((k + 1) + 1))), (0, .ref 95), (1, .int f), (2, .int (roR I ko nl (ptN I ko nl f (k + 1)) (nI 0)))]) [0, 3, 4, 1] rfl ?_
    exact ih (k + 1) (by omega) (peA f (ptN I ko nl f (k + 1)) s nl) ez9
theorem c_M_period {S : Nat × (Nat → Int32)} {d n : Nat} {I : mI} {J : mJ} {R : mR} {ko nh nl : Nat} (hn : 122 ≤ n) (hR : m_fin R) (ho : I 95 23 = nI ko) (hk : ko < 7) (hh : I 95 24 = nI nh) (hnh : nh ≤ 6) (hl : I 95 25 = nI nl) (hnl : nl ≤ 10) (hW : WFk I ko) {P : Nat} (hP : 0 < P) (hr : ptN I ko nl (rsN I ko nl (nI 0) (rs0 I ko nl) 20) P = (rsN I ko nl (nI 0) (rs0 I ko nl) 20)) (hn0 : ∀ j, 0 < j → j < P → ¬ ptN I ko nl (rsN I ko nl (nI 0) (rs0 I ko nl) 20) j = (rsN I ko nl (nI 0) (rs0 I ko nl) 20))  : RUN S (d + 4) YM_period [.ref 95] I J R n (some (.int (nI P))) (m_row I 95 (va_up (I 95) 40 (peN I ko nl (rsN I ko nl (nI 0) (rs0 I ko nl) 20) (nI 0) (P - 1)))) J R n := by
  show AW S _ YM_period n n _ 0 [(0, .ref 95)] [] I J R n
  refine a_aload_n 0 dM_period_0 rfl rfl ?_
  refine a_bipushN (a := 20) dM_period_1 (by decide) ?_
  refine a_iconstN (a := 0) dM_period_3 (by decide) ?_
  refine a_callV (Q' := m_res (some (.int (rsN I ko nl (nI 0) (rs0 I ko nl) 20))) I J R) (as := [.int (nI 20), .int (nI 0)]) (st := []) dM_period_4 ml12_405 rfl (Nat.le_of_ble_eq_true rfl) ly_95 rfl rfl (by decide) (by omega) (Nat.le_of_ble_eq_true rfl) rfl (Nat.le_refl _) (Nat.le_refl _) (c_M_rounds (I := I) hn hR ho hk hh hnh hl hnl hW (by omega)) (m_go ?_)
  show AW _ _ _ _ _ _ _ _ [.int (rsN I ko nl (nI 0) (rs0 I ko nl) 20)] _ _ _ _
  refine a_istore_n (lv' := [(1, .int (rsN I ko nl (nI 0) (rs0 I ko nl) 20)), (0, .ref 95)]) dM_period_7 rfl (by decide) rfl ?_
  refine a_aload_n 1 dM_period_8 rfl rfl ?_
  refine a_iload_n 0 dM_period_9 rfl rfl ?_
  refine a_iconstN (a := 0) dM_period_10 (by decide) ?_
  refine a_callV (Q' := m_res (some (.int (roR I ko nl (rsN I ko nl (nI 0) (rs0 I ko nl) 20) (nI 0)))) I J R) (as := [.int (rsN I ko nl (nI 0) (rs0 I ko nl) 20), .int (nI 0)]) (st := []) dM_period_11 ml12_402 rfl (Nat.le_of_ble_eq_true rfl) ly_95 rfl rfl (by decide) (by omega) (Nat.le_of_ble_eq_true rfl) rfl (Nat.le_refl _) (Nat.le_refl _) (c_M_round (I := I) hn hR ho hk hh hnh hl hnl hW) (m_go ?_)
  show AW _ _ _ _ _ _ _ _ [.int (roR I ko nl (rsN I ko nl (nI 0) (rs0 I ko nl) 20) (nI 0))] _ _ _ _
  refine a_istore_n (lv' := [(2, .int (roR I ko nl (rsN I ko nl (nI 0) (rs0 I ko nl) 20) (nI 0))), (1, .int (rsN I ko nl (nI 0) (rs0 I ko nl) 20)), (0, .ref 95)]) dM_period_14 rfl (by decide) rfl ?_
  refine a_iconstN (a := 1) dM_period_15 (by decide) ?_
  refine a_istore_n (lv' := [(3, .int (nI 1)), (2, .int (roR I ko nl (rsN I ko nl (nI 0) (rs0 I ko nl) 20) (nI 0))), (1, .int (rsN I ko nl (nI 0) (rs0 I ko nl) 20)), (0, .ref 95)]) dM_period_16 rfl (by decide) rfl ?_
  refine a_aload_n 3 dM_period_17 rfl rfl ?_
  refine a_iconstN (a := 0) dM_period_18 (by decide) ?_
  refine a_puti dM_period_19 fl12_408 rfl ly_95 (by omega) ?_
  refine a_mem m_up_row ?_
  refine a_locs (lv' := [(3, .int (nI 1)), (0, .ref 95), (1, .int (rsN I ko nl (nI 0) (rs0 I ko nl) 20)), (2, .int (roR I ko nl (rsN I ko nl (nI 0) (rs0 I ko nl) 20) (nI 0)))]) [0, 3, 2, 1] rfl ?_
  refine l_peN (s0 := (nI 0)) hn hR ho hk hh hnh hl hnl hW (f := (rsN I ko nl (nI 0) (rs0 I ko nl) 20)) hP hr hn0 ?_ (P - 1) 0 (by omega) _ rfl
  refine a_iload_n 0 dM_period_90 rfl rfl ?_
  exact a_iret dM_period_91 rfl ⟨by rw [show P - 1 + 1 = P by omega], rfl, rfl, rfl⟩
theorem b_M_settled {S : Nat × (Nat → Int32)} {d n : Nat} {I : mI} {J : mJ} {R : mR} {ko nh nl : Nat} (hn : 122 ≤ n) (hR : m_fin R) (ho : I 95 23 = nI ko) (hk : ko < 7) (hh : I 95 24 = nI nh) (hnh : nh ≤ 6) (hl : I 95 25 = nI nl) (hnl : nl ≤ 10) (hW : WFk I ko) {P : Nat} (hP : 0 < P) (hr : ptN I ko nl (rsN I ko nl (nI 0) (rs0 I ko nl) 20) P = (rsN I ko nl (nI 0) (rs0 I ko nl) 20)) (hn0 : ∀ j, 0 < j → j < P → ¬ ptN I ko nl (rsN I ko nl (nI 0) (rs0 I ko nl) 20) j = (rsN I ko nl (nI 0) (rs0 I ko nl) 20)) {x : Int32}  {Q : Option Value → mI → mJ → mR → Prop} (hQ : ∀ b, Q (some (.int (if x = nI 1 then nI P else peN I ko nl (rsN I ko nl (nI 0) (rs0 I ko nl) 20) (nI 0) (P - 1)))) (m_row I 95 (va_up (I 95) 40 b)) J R) : AW S (d + 5) YM_settled n n Q 34 [(0, .ref 95), (2, .int x)] [] I J R n := by
  refine a_aload_n 0 dM_settled_34 rfl rfl ?_
  refine a_callV (Q' := m_res (some (.int (nI P))) (m_row I 95 (va_up (I 95) 40 (peN I ko nl (rsN I ko nl (nI 0) (rs0 I ko nl) 20) (nI 0) (P - 1)))) J R) (as := []) (st := []) dM_settled_35 ml12_414 rfl (Nat.le_of_ble_eq_true rfl) ly_95 rfl rfl (by decide) (by omega) (Nat.le_of_ble_eq_true rfl) rfl (Nat.le_refl _) (Nat.le_refl _) (c_M_period hn hR ho hk hh hnh hl hnl hW hP hr hn0) (m_go ?_)
  show AW _ _ _ _ _ _ _ _ [.int (nI P)] _ _ _ _
  refine a_istore_n (lv' := [(3, .int (nI P)), (0, .ref 95), (2, .int x)]) dM_settled_38 rfl (by decide) rfl ?_
  refine a_iload_n 2 dM_settled_39 rfl rfl ?_
  refine a_iconstN (a := 1) dM_settled_40 (by decide) ?_
  refine a_icmp_ne (tgt := 48) dM_settled_41 (by decide) (fun c41 => ?_) (fun c41 => ?_)
  · refine a_aload_n 1 dM_settled_48 rfl rfl ?_
    refine a_geti dM_settled_49 fl12_408 rfl ly_95 (by omega) ?_
    rw [show (m_row I 95 (va_up (I 95) 40 (peN I ko nl (rsN I ko nl (nI 0) (rs0 I ko nl) 20) (nI 0) (P - 1)))) 95 40 = (peN I ko nl (rsN I ko nl (nI 0) (rs0 I ko nl) 20) (nI 0) (P - 1)) from rfl]
    exact a_iret dM_settled_52 rfl (by have h := hQ (peN I ko nl (rsN I ko nl (nI 0) (rs0 I ko nl) 20) (nI 0) (P - 1)); rw [if_neg c41] at h; exact h)
  · refine a_iload_n 0 dM_settled_44 rfl rfl ?_
    refine a_goto (tgt := 52) dM_settled_45 (by decide) ?_
    exact a_iret dM_settled_52 rfl (by have h := hQ (peN I ko nl (rsN I ko nl (nI 0) (rs0 I ko nl) 20) (nI 0) (P - 1)); rw [if_pos c41] at h; exact h)
def couAS (I : mI) (ko t : Nat) (k : Nat) (s : Nat) : Nat := (if (I 106 k) = (I 106 t) then (if (oR I ko ((59 + (4 * (kdN I ko k))) + (kdN I ko t))) = (-1) then (s + 0) else (s + 1)) else (s + 0))
def couA (I : mI) (ko t : Nat) (s0 : Nat) : Nat → Nat
  | 0 => s0
  | k + 1 => couAS I ko t k (couA I ko t s0 k)
theorem l_couA {S : Nat × (Nat → Int32)} {d n : Nat} {I : mI} {J : mJ} {R : mR} {ko nh nl : Nat} (hn : 122 ≤ n) (hR : m_fin R) (ho : I 95 23 = nI ko) (hk : ko < 7) (hh : I 95 24 = nI nh) (hnh : nh ≤ 6) (hl : I 95 25 = nI nl) (hnl : nl ≤ 10) (hW : WFk I ko) {t : Nat} (ht : t < nl)  {s0 : Nat} {Q : Option Value → mI → mJ → mR → Prop}  (hx : AW S (d + 3) YM_couples n n Q 72 [(3, .int (nI t)), (1, .int (nI (couA I ko t s0 t))), (0, .ref 95), (2, .int (nI t))] [] I J R n) : ∀ m k, k + m = t → ∀ s : Nat, couA I ko t s0 k = s → AW S (d + 3) YM_couples n n Q 14 [(3, .int (nI k)), (1, .int (nI s)), (0, .ref 95), (2, .int (nI t))] [] I J R n := by
  intro m
  induction m with
  | zero =>
    intro k hk9 s es
    rw [show k = t by omega] at es ⊢
    subst es
    refine a_iload_n 0 dM_couples_14 rfl rfl ?_
    refine a_iload_n 3 dM_couples_15 rfl rfl ?_
    refine a_icmp_geN (tgt := 72) dM_couples_16 (by decide) (by omega) (by omega) (fun _ => ?_) (fun c => False.elim (by omega))
    exact hx
  | succ m ih =>
    intro k hk9 s es
    have hk1 := (hW k (by omega)).2
    have hk2 := (hW t (by omega)).2
    refine a_iload_n 0 dM_couples_14 rfl rfl ?_
    refine a_iload_n 3 dM_couples_15 rfl rfl ?_
    refine a_icmp_geN (tgt := 72) dM_couples_16 (by decide) (by omega) (by omega) (fun c => False.elim (by omega)) (fun _ => ?_)
    refine a_iload_n 1 dM_couples_19 rfl rfl ?_
    refine a_aload_n 2 dM_couples_20 rfl rfl ?_
    refine a_geta (r := 106) dM_couples_21 fl12_41 rfl ly_95 (by omega) (rf_95_26 hR) ?_
    refine a_iload_n 0 dM_couples_24 rfl rfl ?_
    refine a_ialdN (a := k) dM_couples_25 ly_106 (by omega) (by omega) (by decide) ?_
    rw [show I 106 k = I 106 k from rfl]
    refine a_aload_n 2 dM_couples_26 rfl rfl ?_
    refine a_geta (r := 106) dM_couples_27 fl12_41 rfl ly_95 (by omega) (rf_95_26 hR) ?_
    refine a_iload_n 3 dM_couples_30 rfl rfl ?_
    refine a_ialdN (a := t) dM_couples_31 ly_106 (by omega) (by omega) (by decide) ?_
    rw [show I 106 t = I 106 t from rfl]
    refine a_icmp_ne (tgt := 63) dM_couples_32 (by decide) (fun c32 => ?_) (fun c32 => ?_)
    · refine a_iconstN (a := 0) dM_couples_63 (by decide) ?_
      refine a_iaddN (a := s) (b := 0) dM_couples_64 ?_
      refine a_istore_n (lv' := [(1, .int (nI (s + 0))), (3, .int (nI k)), (0, .ref 95), (2, .int (nI t))]) dM_couples_65 rfl (by decide) rfl ?_
      refine a_iincN (lv' := [(3, .int (nI (k + 1))), (1, .int (nI (s + 0))), (0, .ref 95), (2, .int (nI t))]) (j := 1) dM_couples_66 rfl (by decide) rfl ?_
      refine a_goto (tgt := 14) dM_couples_69 (by decide) ?_
      have ez9 : couA I ko t s0 (k + 1) = (s + 0) := by
        show couAS I ko t k (couA I ko t s0 k) = _
        rw [es]
        unfold couAS
        rw [if_neg c32]
      exact ih (k + 1) (by omega) (s + 0) ez9
    · refine a_aload_n 2 dM_couples_35 rfl rfl ?_
      refine a_bipushN (a := 59) dM_couples_36 (by decide) ?_
      refine a_iconstN (a := 4) dM_couples_38 (by decide) ?_
      refine a_aload_n 2 dM_couples_39 rfl rfl ?_
      refine a_iload_n 0 dM_couples_40 rfl rfl ?_
      refine a_callV (Q' := m_res (some (.int (oR I ko (19 + k)))) I J R) (as := [.int (nI k)]) (st := [.int (nI 4), .int (nI 59), .ref 95, .int (nI s)]) dM_couples_41 ml12_271 rfl (Nat.le_of_ble_eq_true rfl) ly_95 rfl rfl (by decide) (by omega) (Nat.le_of_ble_eq_true rfl) rfl (Nat.le_refl _) (Nat.le_refl _) (c_M_kind hn hR (show I 95 23 = nI ko from ho) hk (by omega)) (m_go ?_)
      show AW _ _ _ _ _ _ _ _ [.int (oR I ko (19 + k)), .int (nI 4), .int (nI 59), .ref 95, .int (nI s)] _ _ _ _
      rw [show (oR I ko (19 + k)) = (nI (kdN I ko k)) from (hW k (by omega)).1]
      refine a_imulN (a := 4) (b := (kdN I ko k)) dM_couples_44 ?_
      refine a_iaddN (a := 59) (b := (4 * (kdN I ko k))) dM_couples_45 ?_
      refine a_aload_n 2 dM_couples_46 rfl rfl ?_
      refine a_iload_n 3 dM_couples_47 rfl rfl ?_
      refine a_callV (Q' := m_res (some (.int (oR I ko (19 + t)))) I J R) (as := [.int (nI t)]) (st := [.int (nI (59 + (4 * (kdN I ko k)))), .ref 95, .int (nI s)]) dM_couples_48 ml12_271 rfl (Nat.le_of_ble_eq_true rfl) ly_95 rfl rfl (by decide) (by omega) (Nat.le_of_ble_eq_true rfl) rfl (Nat.le_refl _) (Nat.le_refl _) (c_M_kind hn hR (show I 95 23 = nI ko from ho) hk (by omega)) (m_go ?_)
      show AW _ _ _ _ _ _ _ _ [.int (oR I ko (19 + t)), .int (nI (59 + (4 * (kdN I ko k)))), .ref 95, .int (nI s)] _ _ _ _
      rw [show (oR I ko (19 + t)) = (nI (kdN I ko t)) from (hW t (by omega)).1]
      refine a_iaddN (a := (59 + (4 * (kdN I ko k)))) (b := (kdN I ko t)) dM_couples_51 ?_
      refine a_callV (Q' := m_res (some (.int (oR I ko ((59 + (4 * (kdN I ko k))) + (kdN I ko t))))) I J R) (as := [.int (nI ((59 + (4 * (kdN I ko k))) + (kdN I ko t)))]) (st := [.int (nI s)]) dM_couples_52 ml12_255 rfl (Nat.le_of_ble_eq_true rfl) ly_95 rfl rfl (by decide) (by omega) (Nat.le_of_ble_eq_true rfl) rfl (Nat.le_refl _) (Nat.le_refl _) (c_M_of hn hR ho (by omega)) (m_go ?_)
      show AW _ _ _ _ _ _ _ _ [.int (oR I ko ((59 + (4 * (kdN I ko k))) + (kdN I ko t))), .int (nI s)] _ _ _ _
      refine a_iconst (v := -1) dM_couples_55 (by decide) ?_
      refine a_icmp_eq (tgt := 63) dM_couples_56 (by decide) (fun c56 => ?_) (fun c56 => ?_)
      · refine a_iconstN (a := 0) dM_couples_63 (by decide) ?_
        refine a_iaddN (a := s) (b := 0) dM_couples_64 ?_
        refine a_istore_n (lv' := [(1, .int (nI (s + 0))), (3, .int (nI k)), (0, .ref 95), (2, .int (nI t))]) dM_couples_65 rfl (by decide) rfl ?_
        refine a_iincN (lv' := [(3, .int (nI (k + 1))), (1, .int (nI (s + 0))), (0, .ref 95), (2, .int (nI t))]) (j := 1) dM_couples_66 rfl (by decide) rfl ?_
        refine a_goto (tgt := 14) dM_couples_69 (by decide) ?_
        have ez9 : couA I ko t s0 (k + 1) = (s + 0) := by
          show couAS I ko t k (couA I ko t s0 k) = _
          rw [es]
          unfold couAS
          rw [if_pos c32, if_pos c56]
        exact ih (k + 1) (by omega) (s + 0) ez9
      · refine a_iconstN (a := 1) dM_couples_59 (by decide) ?_
        refine a_goto (tgt := 64) dM_couples_60 (by decide) ?_
        refine a_iaddN (a := s) (b := 1) dM_couples_64 ?_
        refine a_istore_n (lv' := [(1, .int (nI (s + 1))), (3, .int (nI k)), (0, .ref 95), (2, .int (nI t))]) dM_couples_65 rfl (by decide) rfl ?_
        refine a_iincN (lv' := [(3, .int (nI (k + 1))), (1, .int (nI (s + 1))), (0, .ref 95), (2, .int (nI t))]) (j := 1) dM_couples_66 rfl (by decide) rfl ?_
        refine a_goto (tgt := 14) dM_couples_69 (by decide) ?_
        have ez9 : couA I ko t s0 (k + 1) = (s + 1) := by
          show couAS I ko t k (couA I ko t s0 k) = _
          rw [es]
          unfold couAS
          rw [if_pos c32, if_neg c56]
        exact ih (k + 1) (by omega) (s + 1) ez9
def couCS (I : mI) (ko : Nat) (k : Nat) (s : Nat) : Nat := (couA I ko k s k)
def couC (I : mI) (ko : Nat) (s0 : Nat) : Nat → Nat
  | 0 => s0
  | k + 1 => couCS I ko k (couC I ko s0 k)
theorem l_couC {S : Nat × (Nat → Int32)} {d n : Nat} {I : mI} {J : mJ} {R : mR} {ko nh nl : Nat} (hn : 122 ≤ n) (hR : m_fin R) (ho : I 95 23 = nI ko) (hk : ko < 7) (hh : I 95 24 = nI nh) (hnh : nh ≤ 6) (hl : I 95 25 = nI nl) (hnl : nl ≤ 10) (hW : WFk I ko)  {s0 : Nat} {Q : Option Value → mI → mJ → mR → Prop}  (hx : AW S (d + 3) YM_couples n n Q 78 [(2, .int (nI nl)), (1, .int (nI (couC I ko s0 nl))), (0, .ref 95)] [] I J R n) : ∀ m k, k + m = nl → ∀ s : Nat, couC I ko s0 k = s → AW S (d + 3) YM_couples n n Q 4 [(2, .int (nI k)), (1, .int (nI s)), (0, .ref 95)] [] I J R n := by
  intro m
  induction m with
  | zero =>
    intro k hk9 s es
    rw [show k = nl by omega] at es ⊢
    subst es
    refine a_iload_n 0 dM_couples_4 rfl rfl ?_
    refine a_aload_n 2 dM_couples_5 rfl rfl ?_
    refine a_geti dM_couples_6 fl12_262 rfl ly_95 (by omega) ?_
    rw [show I 95 25 = (nI nl) from hl]
    refine a_icmp_geN (tgt := 78) dM_couples_9 (by decide) (by omega) (by omega) (fun _ => ?_) (fun c => False.elim (by omega))
    exact hx
  | succ m ih =>
    intro k hk9 s es
    refine a_iload_n 0 dM_couples_4 rfl rfl ?_
    refine a_aload_n 2 dM_couples_5 rfl rfl ?_
    refine a_geti dM_couples_6 fl12_262 rfl ly_95 (by omega) ?_
    rw [show I 95 25 = (nI nl) from hl]
    refine a_icmp_geN (tgt := 78) dM_couples_9 (by decide) (by omega) (by omega) (fun c => False.elim (by omega)) (fun _ => ?_)
    refine a_iconstN (a := 0) dM_couples_12 (by decide) ?_
    refine a_istore_n (lv' := [(3, .int (nI 0)), (2, .int (nI k)), (1, .int (nI s)), (0, .ref 95)]) dM_couples_13 rfl (by decide) rfl ?_
    refine a_locs (lv' := [(3, .int (nI 0)), (1, .int (nI s)), (0, .ref 95), (2, .int (nI k))]) [0, 2, 3, 1] rfl ?_
    refine l_couA (s0 := s) hn hR ho hk hh hnh hl hnl hW (t := k) (by omega) ?_ k 0 (by omega) _ rfl
    refine a_iincN (lv' := [(2, .int (nI (k + 1))), (3, .int (nI k)), (1, .int (nI (couA I ko k s k))), (0, .ref 95)]) (j := 3) dM_couples_72 rfl (by decide) rfl ?_
    refine a_goto (tgt := 4) dM_couples_75 (by decide) ?_
    have ez9 : couC I ko s0 (k + 1) = (couA I ko k s k) := by
      show couCS I ko k (couC I ko s0 k) = _
      rw [es]
      unfold couCS
      rfl
    refine a_locs (lv' := [(2, .int (nI (k + 1))), (1, .int (nI (couA I ko k s k))), (0, .ref 95)]) [0, 2, 3] rfl ?_
    exact ih (k + 1) (by omega) (couA I ko k s k) ez9
theorem c_M_couples {S : Nat × (Nat → Int32)} {d n : Nat} {I : mI} {J : mJ} {R : mR} {ko nh nl : Nat} (hn : 122 ≤ n) (hR : m_fin R) (ho : I 95 23 = nI ko) (hk : ko < 7) (hh : I 95 24 = nI nh) (hnh : nh ≤ 6) (hl : I 95 25 = nI nl) (hnl : nl ≤ 10) (hW : WFk I ko)  : RUN S (d + 3) YM_couples [.ref 95] I J R n (some (.int (nI (couC I ko 0 nl)))) I J R n := by
  show AW S _ YM_couples n n _ 0 [(0, .ref 95)] [] I J R n
  refine a_iconstN (a := 0) dM_couples_0 (by decide) ?_
  refine a_istore_n (lv' := [(1, .int (nI 0)), (0, .ref 95)]) dM_couples_1 rfl (by decide) rfl ?_
  refine a_iconstN (a := 0) dM_couples_2 (by decide) ?_
  refine a_istore_n (lv' := [(2, .int (nI 0)), (1, .int (nI 0)), (0, .ref 95)]) dM_couples_3 rfl (by decide) rfl ?_
  refine l_couC (s0 := 0) hn hR ho hk hh hnh hl hnl hW ?_ nl 0 (by omega) _ rfl
  refine a_iload_n 1 dM_couples_78 rfl rfl ?_
  exact a_iret dM_couples_79 rfl ⟨rfl, rfl, rfl, rfl⟩
def WFm (I : mI) (ko nl : Nat) : Prop := ∀ l, l < nl → oR I ko (39 + l) = -1 ∨ ∃ m, m < nl ∧ oR I ko (39 + l) = nI m
/-- who is minded from a letter on, till nobody or one seen -/
def flN (I : mI) (ko : Nat) : Nat → Int32 → Int32 → Int32
  | 0, s, _ => s
  | f + 1, s, at0 => if at0 = -1 then s else if f_has s at0 = 0 then flN I ko f (s ||| (nI 1 <<< (at0 &&& 31))) (oR I ko (39 + at0.toNatClampNeg)) else s
theorem ones_or {s : Int32} {m : Nat} (hm : m < 10) (h : f_has s (nI m) = 0) : onesN (s ||| (nI 1 <<< (nI m &&& 31))) 10 = onesN s 10 + 1 := by
  have hb := (hasz_bt s (by omega : m < 32)).mp h
  have key : ∀ k, k ≤ 10 → onesN (s ||| (nI 1 <<< (nI m &&& 31))) k = onesN s k + (if m < k then 1 else 0) := by
    intro k
    induction k with
    | zero => intro _; rfl
    | succ k ih =>
      intro hk
      rw [onesN_s _ (by omega), onesN_s _ (by omega), ih (by omega), b_or, show bt (nI 1 <<< (nI m &&& 31)) k = decide (k = m) from bt_sh (by omega) (by omega)]
      by_cases e : k = m
      · subst e
        rw [hb]
        simp
      · by_cases e2 : m < k
        · rw [if_pos e2, if_pos (show m < k + 1 by omega)]; simp [e]; omega
        · rw [if_neg e2, if_neg (show ¬ m < k + 1 by omega)]; simp [e]
  rw [key 10 (by omega), if_pos hm]
theorem l_flN {S : Nat × (Nat → Int32)} {d n : Nat} {I : mI} {J : mJ} {R : mR} {ko nh nl : Nat} (hn : 122 ≤ n) (hR : m_fin R) (ho : I 95 23 = nI ko) (hk : ko < 7) (hh : I 95 24 = nI nh) (hnh : nh ≤ 6) (hl : I 95 25 = nI nl) (hnl : nl ≤ 10) (hW : WFk I ko)  {lg : Int32} {t : Nat} (hM : WFm I ko nl) {Q : Option Value → mI → mJ → mR → Prop} : ∀ f (s a : Int32), 10 < onesN s 10 + f → (a = -1 ∨ ∃ m, m < nl ∧ a = nI m) → (∀ x, AW S (d + 2) YM_follow n n Q 53 [(3, .int (flN I ko f s a)), (4, .int x), (0, .ref 95), (1, .int lg), (2, .int (nI t))] [] I J R n) → AW S (d + 2) YM_follow n n Q 17 [(3, .int s), (4, .int a), (0, .ref 95), (1, .int lg), (2, .int (nI t))] [] I J R n := by
  intro f
  induction f with
  | zero =>
    intro s a hf
    have := onesN_le s 10
    omega
  | succ f ih =>
    intro s a hf ha hk9
    rcases ha with rfl | ⟨m, hm, rfl⟩
    · have e0 : flN I ko (f + 1) s (-1) = s := by unfold flN; rw [if_pos rfl]
      rw [e0] at hk9
      refine a_iload 1 dM_follow_17 rfl ?_
      refine a_iconst (v := -1) dM_follow_19 (by decide) ?_
      refine a_icmp_eq (tgt := 53) dM_follow_20 (by decide) (fun _ => ?_) (fun c => False.elim (c rfl))
      exact hk9 _
    · by_cases hs : f_has s (nI m) = 0
      · have e0 : flN I ko (f + 1) s (nI m) = flN I ko f (s ||| (nI 1 <<< (nI m &&& 31))) (oR I ko (39 + m)) := by
          show (if nI m = -1 then s else if f_has s (nI m) = 0 then flN I ko f (s ||| (nI 1 <<< (nI m &&& 31))) (oR I ko (39 + (nI m).toNatClampNeg)) else s) = _
          rw [if_neg (nI_m1 (by omega)), if_pos hs, nI_clamp (by omega)]
        rw [e0] at hk9
        refine a_iload 1 dM_follow_17 rfl ?_
        refine a_iconst (v := -1) dM_follow_19 (by decide) ?_
        refine a_icmp_eq (tgt := 53) dM_follow_20 (by decide) (fun c => False.elim (nI_m1 (by omega) c)) (fun _ => ?_)
        refine a_iload_n 0 dM_follow_23 rfl rfl ?_
        refine a_iload 1 dM_follow_24 rfl ?_
        refine a_callS (Q' := m_res (some (.int (f_has s (nI m)))) I J R) (as := [.int s, .int (nI m)]) (st := []) dM_follow_26 ml12_94 rfl (Nat.le_of_ble_eq_true rfl) (Nat.le_of_ble_eq_true rfl) rfl (Nat.le_refl _) (Nat.le_refl _) c_M_has (m_go ?_)
        show AW _ _ _ _ _ _ _ _ [.int (f_has s (nI m))] _ _ _ _
        refine a_if_ne (tgt := 53) dM_follow_29 (by decide) (fun c => False.elim (c hs)) (fun _ => ?_)
        refine a_iload_n 0 dM_follow_32 rfl rfl ?_
        refine a_iconstN (a := 1) dM_follow_33 (by decide) ?_
        refine a_iload 1 dM_follow_34 rfl ?_
        refine a_ishl dM_follow_36 ?_
        refine a_ior dM_follow_37 ?_
        refine a_istore_n (lv' := [(3, .int (s ||| ((nI 1) <<< ((nI m) &&& 31)))), (4, .int (nI m)), (0, .ref 95), (1, .int lg), (2, .int (nI t))]) dM_follow_38 rfl (by decide) rfl ?_
        refine a_aload_n 2 dM_follow_39 rfl rfl ?_
        refine a_bipushN (a := 39) dM_follow_40 (by decide) ?_
        refine a_iload 1 dM_follow_42 rfl ?_
        refine a_iaddN (a := 39) (b := m) dM_follow_44 ?_
        refine a_callV (Q' := m_res (some (.int (oR I ko (39 + m)))) I J R) (as := [.int (nI (39 + m))]) (st := []) dM_follow_45 ml12_255 rfl (Nat.le_of_ble_eq_true rfl) ly_95 rfl rfl (by decide) (by omega) (Nat.le_of_ble_eq_true rfl) rfl (Nat.le_refl _) (Nat.le_refl _) (c_M_of hn hR ho (by omega)) (m_go ?_)
        show AW _ _ _ _ _ _ _ _ [.int (oR I ko (39 + m))] _ _ _ _
        refine a_istore (lv' := [(4, .int (oR I ko (39 + m))), (3, .int (s ||| ((nI 1) <<< ((nI m) &&& 31)))), (0, .ref 95), (1, .int lg), (2, .int (nI t))]) dM_follow_48 (by decide) rfl ?_
        refine a_goto (tgt := 17) dM_follow_50 (by decide) ?_
        refine a_locs (lv' := [(3, .int (s ||| ((nI 1) <<< ((nI m) &&& 31)))), (4, .int (oR I ko (39 + m))), (0, .ref 95), (1, .int lg), (2, .int (nI t))]) [1, 0, 2, 3, 4] rfl ?_
        exact ih _ _ (by rw [ones_or (by omega) hs]; omega) (hM m hm) hk9
      · have e0 : flN I ko (f + 1) s (nI m) = s := by
          show (if nI m = -1 then s else if f_has s (nI m) = 0 then flN I ko f (s ||| (nI 1 <<< (nI m &&& 31))) (oR I ko (39 + (nI m).toNatClampNeg)) else s) = _
          rw [if_neg (nI_m1 (by omega)), if_neg hs]
        rw [e0] at hk9
        refine a_iload 1 dM_follow_17 rfl ?_
        refine a_iconst (v := -1) dM_follow_19 (by decide) ?_
        refine a_icmp_eq (tgt := 53) dM_follow_20 (by decide) (fun c => False.elim (nI_m1 (by omega) c)) (fun _ => ?_)
        refine a_iload_n 0 dM_follow_23 rfl rfl ?_
        refine a_iload 1 dM_follow_24 rfl ?_
        refine a_callS (Q' := m_res (some (.int (f_has s (nI m)))) I J R) (as := [.int s, .int (nI m)]) (st := []) dM_follow_26 ml12_94 rfl (Nat.le_of_ble_eq_true rfl) (Nat.le_of_ble_eq_true rfl) rfl (Nat.le_refl _) (Nat.le_refl _) c_M_has (m_go ?_)
        show AW _ _ _ _ _ _ _ _ [.int (f_has s (nI m))] _ _ _ _
        refine a_if_ne (tgt := 53) dM_follow_29 (by decide) (fun _ => ?_) (fun c => False.elim (hs c))
        exact hk9 _
def fwNS (I : mI) (ko : Nat) (k : Nat) (s : Int32) : Int32 := (f_gr s (nI (onesN (flN I ko 11 (nI 0) (nI k)) 10)))
def fwN (I : mI) (ko : Nat) (s0 : Int32) : Nat → Int32
  | 0 => s0
  | k + 1 => fwNS I ko k (fwN I ko s0 k)
theorem l_fwN {S : Nat × (Nat → Int32)} {d n : Nat} {I : mI} {J : mJ} {R : mR} {ko nh nl : Nat} (hn : 122 ≤ n) (hR : m_fin R) (ho : I 95 23 = nI ko) (hk : ko < 7) (hh : I 95 24 = nI nh) (hnh : nh ≤ 6) (hl : I 95 25 = nI nl) (hnl : nl ≤ 10) (hW : WFk I ko) (hM : WFm I ko nl)  {s0 : Int32} {Q : Option Value → mI → mJ → mR → Prop}  (hx : AW S (d + 2) YM_follow n n Q 68 [(2, .int (nI nl)), (1, .int (fwN I ko s0 nl)), (0, .ref 95)] [] I J R n) : ∀ m k, k + m = nl → ∀ s : Int32, fwN I ko s0 k = s → AW S (d + 2) YM_follow n n Q 4 [(2, .int (nI k)), (1, .int s), (0, .ref 95)] [] I J R n := by
  intro m
  induction m with
  | zero =>
    intro k hk9 s es
    rw [show k = nl by omega] at es ⊢
    subst es
    refine a_iload_n 0 dM_follow_4 rfl rfl ?_
    refine a_aload_n 2 dM_follow_5 rfl rfl ?_
    refine a_geti dM_follow_6 fl12_262 rfl ly_95 (by omega) ?_
    rw [show I 95 25 = (nI nl) from hl]
    refine a_icmp_geN (tgt := 68) dM_follow_9 (by decide) (by omega) (by omega) (fun _ => ?_) (fun c => False.elim (by omega))
    exact hx
  | succ m ih =>
    intro k hk9 s es
    refine a_iload_n 0 dM_follow_4 rfl rfl ?_
    refine a_aload_n 2 dM_follow_5 rfl rfl ?_
    refine a_geti dM_follow_6 fl12_262 rfl ly_95 (by omega) ?_
    rw [show I 95 25 = (nI nl) from hl]
    refine a_icmp_geN (tgt := 68) dM_follow_9 (by decide) (by omega) (by omega) (fun c => False.elim (by omega)) (fun _ => ?_)
    refine a_iconstN (a := 0) dM_follow_12 (by decide) ?_
    refine a_istore_n (lv' := [(3, .int (nI 0)), (2, .int (nI k)), (1, .int s), (0, .ref 95)]) dM_follow_13 rfl (by decide) rfl ?_
    refine a_iload_n 1 dM_follow_14 rfl rfl ?_
    refine a_istore (lv' := [(4, .int (nI k)), (3, .int (nI 0)), (2, .int (nI k)), (1, .int s), (0, .ref 95)]) dM_follow_15 (by decide) rfl ?_
    refine a_locs (lv' := [(3, .int (nI 0)), (4, .int (nI k)), (0, .ref 95), (1, .int s), (2, .int (nI k))]) [1, 0, 4, 3, 2] rfl ?_
    refine l_flN hn hR ho hk hh hnh hl hnl hW hM 11 (nI 0) (nI k) (by omega) (Or.inr ⟨k, by omega, rfl⟩) (fun x => ?_)
    refine a_iload_n 3 dM_follow_53 rfl rfl ?_
    refine a_iload_n 0 dM_follow_54 rfl rfl ?_
    refine a_callS (Q' := m_res (some (.int (nI (onesN (flN I ko 11 (nI 0) (nI k)) 10)))) I J R) (as := [.int (flN I ko 11 (nI 0) (nI k))]) (st := [.int s]) dM_follow_55 ml12_369 rfl (Nat.le_of_ble_eq_true rfl) (Nat.le_of_ble_eq_true rfl) rfl (Nat.le_refl _) (Nat.le_refl _) c_M_ones (m_go ?_)
    show AW _ _ _ _ _ _ _ _ [.int (nI (onesN (flN I ko 11 (nI 0) (nI k)) 10)), .int s] _ _ _ _
    refine a_callS (Q' := m_res (some (.int (f_gr s (nI (onesN (flN I ko 11 (nI 0) (nI k)) 10))))) I J R) (as := [.int s, .int (nI (onesN (flN I ko 11 (nI 0) (nI k)) 10))]) (st := []) dM_follow_58 ml12_167 rfl (Nat.le_of_ble_eq_true rfl) (Nat.le_of_ble_eq_true rfl) rfl (Nat.le_refl _) (Nat.le_refl _) c_M_greater (m_go ?_)
    show AW _ _ _ _ _ _ _ _ [.int (f_gr s (nI (onesN (flN I ko 11 (nI 0) (nI k)) 10)))] _ _ _ _
    refine a_istore_n (lv' := [(1, .int (f_gr s (nI (onesN (flN I ko 11 (nI 0) (nI k)) 10)))), (3, .int (flN I ko 11 (nI 0) (nI k))), (4, .int x), (0, .ref 95), (2, .int (nI k))]) dM_follow_61 rfl (by decide) rfl ?_
    refine a_iincN (lv' := [(2, .int (nI (k + 1))), (1, .int (f_gr s (nI (onesN (flN I ko 11 (nI 0) (nI k)) 10)))), (3, .int (flN I ko 11 (nI 0) (nI k))), (4, .int x), (0, .ref 95)]) (j := 4) dM_follow_62 rfl (by decide) rfl ?_
    refine a_goto (tgt := 4) dM_follow_65 (by decide) ?_
    have ez9 : fwN I ko s0 (k + 1) = (f_gr s (nI (onesN (flN I ko 11 (nI 0) (nI k)) 10))) := by
      show fwNS I ko k (fwN I ko s0 k) = _
      rw [es]
      unfold fwNS
      rfl
    refine a_locs (lv' := [(2, .int (nI (k + 1))), (1, .int (f_gr s (nI (onesN (flN I ko 11 (nI 0) (nI k)) 10)))), (0, .ref 95)]) [0, 1, 4] rfl ?_
    exact ih (k + 1) (by omega) (f_gr s (nI (onesN (flN I ko 11 (nI 0) (nI k)) 10))) ez9
theorem c_M_follow {S : Nat × (Nat → Int32)} {d n : Nat} {I : mI} {J : mJ} {R : mR} {ko nh nl : Nat} (hn : 122 ≤ n) (hR : m_fin R) (ho : I 95 23 = nI ko) (hk : ko < 7) (hh : I 95 24 = nI nh) (hnh : nh ≤ 6) (hl : I 95 25 = nI nl) (hnl : nl ≤ 10) (hW : WFk I ko) (hM : WFm I ko nl)  : RUN S (d + 2) YM_follow [.ref 95] I J R n (some (.int (fwN I ko (nI 0) nl))) I J R n := by
  show AW S _ YM_follow n n _ 0 [(0, .ref 95)] [] I J R n
  refine a_iconstN (a := 0) dM_follow_0 (by decide) ?_
  refine a_istore_n (lv' := [(1, .int (nI 0)), (0, .ref 95)]) dM_follow_1 rfl (by decide) rfl ?_
  refine a_iconstN (a := 0) dM_follow_2 (by decide) ?_
  refine a_istore_n (lv' := [(2, .int (nI 0)), (1, .int (nI 0)), (0, .ref 95)]) dM_follow_3 rfl (by decide) rfl ?_
  refine l_fwN (s0 := (nI 0)) hn hR ho hk hh hnh hl hnl hW hM ?_ nl 0 (by omega) _ rfl
  refine a_iload_n 1 dM_follow_68 rfl rfl ?_
  exact a_iret dM_follow_69 rfl ⟨rfl, rfl, rfl, rfl⟩
def loNS (I : mI) (ko nl : Nat) (k : Nat) (s : Int32) : Int32 := (if s = (-1) then (if (roR I ko nl (rsN I ko nl (nI k) (rs0 I ko nl) 20) (nI k)) = (rsN I ko nl (nI k) (rs0 I ko nl) 20) then (nI k) else s) else (if (onesN s 10) ≤ (onesN (nI k) 10) then s else (if (roR I ko nl (rsN I ko nl (nI k) (rs0 I ko nl) 20) (nI k)) = (rsN I ko nl (nI k) (rs0 I ko nl) 20) then (nI k) else s)))
def loN (I : mI) (ko nl : Nat) (s0 : Int32) : Nat → Int32
  | 0 => s0
  | k + 1 => loNS I ko nl k (loN I ko nl s0 k)
theorem l_loN {S : Nat × (Nat → Int32)} {d n : Nat} {I : mI} {J : mJ} {R : mR} {ko nh nl : Nat} (hn : 122 ≤ n) (hR : m_fin R) (ho : I 95 23 = nI ko) (hk : ko < 7) (hh : I 95 24 = nI nh) (hnh : nh ≤ 6) (hl : I 95 25 = nI nl) (hnl : nl ≤ 10) (hW : WFk I ko) {P : Nat} (hP : 2 ^ nl = P) (hP2 : P ≤ 1024)  {s0 : Int32} {Q : Option Value → mI → mJ → mR → Prop}  (hx : AW S (d + 4) YM_loose n n Q 60 [(2, .int (nI P)), (1, .int (loN I ko nl s0 P)), (0, .ref 95)] [] I J R n) : ∀ m k, k + m = P → ∀ s : Int32, loN I ko nl s0 k = s → AW S (d + 4) YM_loose n n Q 4 [(2, .int (nI k)), (1, .int s), (0, .ref 95)] [] I J R n := by
  intro m
  induction m with
  | zero =>
    intro k hk9 s es
    rw [show k = P by omega] at es ⊢
    subst es
    refine a_iload_n 0 dM_loose_4 rfl rfl ?_
    refine a_iconstN (a := 1) dM_loose_5 (by decide) ?_
    refine a_aload_n 2 dM_loose_6 rfl rfl ?_
    refine a_geti dM_loose_7 fl12_262 rfl ly_95 (by omega) ?_
    rw [show I 95 25 = (nI nl) from hl]
    refine a_ishl dM_loose_10 ?_
    rw [show ((nI 1) <<< ((nI nl) &&& 31)) = (nI P) from (shl_P hP hnl)]
    refine a_icmp_geN (tgt := 60) dM_loose_11 (by decide) (by omega) (by omega) (fun _ => ?_) (fun c => False.elim (by omega))
    exact hx
  | succ m ih =>
    intro k hk9 s es
    have o1 := onesN_le (nI k) 10
    have o2 := onesN_le s 10
    refine a_iload_n 0 dM_loose_4 rfl rfl ?_
    refine a_iconstN (a := 1) dM_loose_5 (by decide) ?_
    refine a_aload_n 2 dM_loose_6 rfl rfl ?_
    refine a_geti dM_loose_7 fl12_262 rfl ly_95 (by omega) ?_
    rw [show I 95 25 = (nI nl) from hl]
    refine a_ishl dM_loose_10 ?_
    rw [show ((nI 1) <<< ((nI nl) &&& 31)) = (nI P) from (shl_P hP hnl)]
    refine a_icmp_geN (tgt := 60) dM_loose_11 (by decide) (by omega) (by omega) (fun c => False.elim (by omega)) (fun _ => ?_)
    refine a_iload_n 1 dM_loose_14 rfl rfl ?_
    refine a_iconst (v := -1) dM_loose_15 (by decide) ?_
    refine a_icmp_eq (tgt := 30) dM_loose_16 (by decide) (fun c16 => ?_) (fun c16 => ?_)
    · refine a_aload_n 2 dM_loose_30 rfl rfl ?_
      refine a_bipushN (a := 20) dM_loose_31 (by decide) ?_
      refine a_iload_n 0 dM_loose_33 rfl rfl ?_
      refine a_callV (Q' := m_res (some (.int (rsN I ko nl (nI k) (rs0 I ko nl) 20))) I J R) (as := [.int (nI 20), .int (nI k)]) (st := []) dM_loose_34 ml12_405 rfl (Nat.le_of_ble_eq_true rfl) ly_95 rfl rfl (by decide) (by omega) (Nat.le_of_ble_eq_true rfl) rfl (Nat.le_refl _) (Nat.le_refl _) (c_M_rounds (I := I) hn hR ho hk hh hnh hl hnl hW (by omega)) (m_go ?_)
      show AW _ _ _ _ _ _ _ _ [.int (rsN I ko nl (nI k) (rs0 I ko nl) 20)] _ _ _ _
      refine a_istore_n (lv' := [(3, .int (rsN I ko nl (nI k) (rs0 I ko nl) 20)), (2, .int (nI k)), (1, .int s), (0, .ref 95)]) dM_loose_37 rfl (by decide) rfl ?_
      refine a_aload_n 3 dM_loose_38 rfl rfl ?_
      refine a_iload_n 0 dM_loose_39 rfl rfl ?_
      refine a_iload_n 1 dM_loose_40 rfl rfl ?_
      refine a_callV (Q' := m_res (some (.int (roR I ko nl (rsN I ko nl (nI k) (rs0 I ko nl) 20) (nI k)))) I J R) (as := [.int (rsN I ko nl (nI k) (rs0 I ko nl) 20), .int (nI k)]) (st := []) dM_loose_41 ml12_402 rfl (Nat.le_of_ble_eq_true rfl) ly_95 rfl rfl (by decide) (by omega) (Nat.le_of_ble_eq_true rfl) rfl (Nat.le_refl _) (Nat.le_refl _) (c_M_round (I := I) hn hR ho hk hh hnh hl hnl hW) (m_go ?_)
      show AW _ _ _ _ _ _ _ _ [.int (roR I ko nl (rsN I ko nl (nI k) (rs0 I ko nl) 20) (nI k))] _ _ _ _
      refine a_iload_n 0 dM_loose_44 rfl rfl ?_
      refine a_icmp_ne (tgt := 52) dM_loose_45 (by decide) (fun c45 => ?_) (fun c45 => ?_)
      · refine a_iload_n 2 dM_loose_52 rfl rfl ?_
        refine a_istore_n (lv' := [(1, .int s), (3, .int (rsN I ko nl (nI k) (rs0 I ko nl) 20)), (2, .int (nI k)), (0, .ref 95)]) dM_loose_53 rfl (by decide) rfl ?_
        refine a_iincN (lv' := [(2, .int (nI (k + 1))), (1, .int s), (3, .int (rsN I ko nl (nI k) (rs0 I ko nl) 20)), (0, .ref 95)]) (j := 2) dM_loose_54 rfl (by decide) rfl ?_
        refine a_goto (tgt := 4) dM_loose_57 (by decide) ?_
        have ez9 : loN I ko nl s0 (k + 1) = s := by
          show loNS I ko nl k (loN I ko nl s0 k) = _
          rw [es]
          unfold loNS
          rw [if_pos c16, if_neg c45]
        refine a_locs (lv' := [(2, .int (nI (k + 1))), (1, .int s), (0, .ref 95)]) [0, 1, 3] rfl ?_
        exact ih (k + 1) (by omega) s ez9
      · refine a_iload_n 1 dM_loose_48 rfl rfl ?_
        refine a_goto (tgt := 53) dM_loose_49 (by decide) ?_
        refine a_istore_n (lv' := [(1, .int (nI k)), (3, .int (rsN I ko nl (nI k) (rs0 I ko nl) 20)), (2, .int (nI k)), (0, .ref 95)]) dM_loose_53 rfl (by decide) rfl ?_
        refine a_iincN (lv' := [(2, .int (nI (k + 1))), (1, .int (nI k)), (3, .int (rsN I ko nl (nI k) (rs0 I ko nl) 20)), (0, .ref 95)]) (j := 2) dM_loose_54 rfl (by decide) rfl ?_
        refine a_goto (tgt := 4) dM_loose_57 (by decide) ?_
        have ez9 : loN I ko nl s0 (k + 1) = (nI k) := by
          show loNS I ko nl k (loN I ko nl s0 k) = _
          rw [es]
          unfold loNS
          rw [if_pos c16, if_pos c45]
        refine a_locs (lv' := [(2, .int (nI (k + 1))), (1, .int (nI k)), (0, .ref 95)]) [0, 1, 3] rfl ?_
        exact ih (k + 1) (by omega) (nI k) ez9
    · refine a_iload_n 0 dM_loose_19 rfl rfl ?_
      refine a_callS (Q' := m_res (some (.int (nI (onesN (nI k) 10)))) I J R) (as := [.int (nI k)]) (st := []) dM_loose_20 ml12_369 rfl (Nat.le_of_ble_eq_true rfl) (Nat.le_of_ble_eq_true rfl) rfl (Nat.le_refl _) (Nat.le_refl _) c_M_ones (m_go ?_)
      show AW _ _ _ _ _ _ _ _ [.int (nI (onesN (nI k) 10))] _ _ _ _
      refine a_iload_n 1 dM_loose_23 rfl rfl ?_
      refine a_callS (Q' := m_res (some (.int (nI (onesN s 10)))) I J R) (as := [.int s]) (st := [.int (nI (onesN (nI k) 10))]) dM_loose_24 ml12_369 rfl (Nat.le_of_ble_eq_true rfl) (Nat.le_of_ble_eq_true rfl) rfl (Nat.le_refl _) (Nat.le_refl _) c_M_ones (m_go ?_)
      show AW _ _ _ _ _ _ _ _ [.int (nI (onesN s 10)), .int (nI (onesN (nI k) 10))] _ _ _ _
      refine a_icmp_geN (tgt := 54) dM_loose_27 (by decide) (by omega) (by omega) (fun c27 => ?_) (fun c27 => ?_)
      · refine a_iincN (lv' := [(2, .int (nI (k + 1))), (1, .int s), (0, .ref 95)]) (j := 0) dM_loose_54 rfl (by decide) rfl ?_
        refine a_goto (tgt := 4) dM_loose_57 (by decide) ?_
        have ez9 : loN I ko nl s0 (k + 1) = s := by
          show loNS I ko nl k (loN I ko nl s0 k) = _
          rw [es]
          unfold loNS
          rw [if_neg c16, if_pos (show (onesN s 10) ≤ (onesN (nI k) 10) by omega)]
        exact ih (k + 1) (by omega) s ez9
      · refine a_aload_n 2 dM_loose_30 rfl rfl ?_
        refine a_bipushN (a := 20) dM_loose_31 (by decide) ?_
        refine a_iload_n 0 dM_loose_33 rfl rfl ?_
        refine a_callV (Q' := m_res (some (.int (rsN I ko nl (nI k) (rs0 I ko nl) 20))) I J R) (as := [.int (nI 20), .int (nI k)]) (st := []) dM_loose_34 ml12_405 rfl (Nat.le_of_ble_eq_true rfl) ly_95 rfl rfl (by decide) (by omega) (Nat.le_of_ble_eq_true rfl) rfl (Nat.le_refl _) (Nat.le_refl _) (c_M_rounds (I := I) hn hR ho hk hh hnh hl hnl hW (by omega)) (m_go ?_)
        show AW _ _ _ _ _ _ _ _ [.int (rsN I ko nl (nI k) (rs0 I ko nl) 20)] _ _ _ _
        refine a_istore_n (lv' := [(3, .int (rsN I ko nl (nI k) (rs0 I ko nl) 20)), (2, .int (nI k)), (1, .int s), (0, .ref 95)]) dM_loose_37 rfl (by decide) rfl ?_
        refine a_aload_n 3 dM_loose_38 rfl rfl ?_
        refine a_iload_n 0 dM_loose_39 rfl rfl ?_
        refine a_iload_n 1 dM_loose_40 rfl rfl ?_
        refine a_callV (Q' := m_res (some (.int (roR I ko nl (rsN I ko nl (nI k) (rs0 I ko nl) 20) (nI k)))) I J R) (as := [.int (rsN I ko nl (nI k) (rs0 I ko nl) 20), .int (nI k)]) (st := []) dM_loose_41 ml12_402 rfl (Nat.le_of_ble_eq_true rfl) ly_95 rfl rfl (by decide) (by omega) (Nat.le_of_ble_eq_true rfl) rfl (Nat.le_refl _) (Nat.le_refl _) (c_M_round (I := I) hn hR ho hk hh hnh hl hnl hW) (m_go ?_)
        show AW _ _ _ _ _ _ _ _ [.int (roR I ko nl (rsN I ko nl (nI k) (rs0 I ko nl) 20) (nI k))] _ _ _ _
        refine a_iload_n 0 dM_loose_44 rfl rfl ?_
        refine a_icmp_ne (tgt := 52) dM_loose_45 (by decide) (fun c45 => ?_) (fun c45 => ?_)
        · refine a_iload_n 2 dM_loose_52 rfl rfl ?_
          refine a_istore_n (lv' := [(1, .int s), (3, .int (rsN I ko nl (nI k) (rs0 I ko nl) 20)), (2, .int (nI k)), (0, .ref 95)]) dM_loose_53 rfl (by decide) rfl ?_
          refine a_iincN (lv' := [(2, .int (nI (k + 1))), (1, .int s), (3, .int (rsN I ko nl (nI k) (rs0 I ko nl) 20)), (0, .ref 95)]) (j := 2) dM_loose_54 rfl (by decide) rfl ?_
          refine a_goto (tgt := 4) dM_loose_57 (by decide) ?_
          have ez9 : loN I ko nl s0 (k + 1) = s := by
            show loNS I ko nl k (loN I ko nl s0 k) = _
            rw [es]
            unfold loNS
            rw [if_neg c16, if_neg (show ¬ ((onesN s 10) ≤ (onesN (nI k) 10)) by omega), if_neg c45]
          refine a_locs (lv' := [(2, .int (nI (k + 1))), (1, .int s), (0, .ref 95)]) [0, 1, 3] rfl ?_
          exact ih (k + 1) (by omega) s ez9
        · refine a_iload_n 1 dM_loose_48 rfl rfl ?_
          refine a_goto (tgt := 53) dM_loose_49 (by decide) ?_
          refine a_istore_n (lv' := [(1, .int (nI k)), (3, .int (rsN I ko nl (nI k) (rs0 I ko nl) 20)), (2, .int (nI k)), (0, .ref 95)]) dM_loose_53 rfl (by decide) rfl ?_
          refine a_iincN (lv' := [(2, .int (nI (k + 1))), (1, .int (nI k)), (3, .int (rsN I ko nl (nI k) (rs0 I ko nl) 20)), (0, .ref 95)]) (j := 2) dM_loose_54 rfl (by decide) rfl ?_
          refine a_goto (tgt := 4) dM_loose_57 (by decide) ?_
          have ez9 : loN I ko nl s0 (k + 1) = (nI k) := by
            show loNS I ko nl k (loN I ko nl s0 k) = _
            rw [es]
            unfold loNS
            rw [if_neg c16, if_neg (show ¬ ((onesN s 10) ≤ (onesN (nI k) 10)) by omega), if_pos c45]
          refine a_locs (lv' := [(2, .int (nI (k + 1))), (1, .int (nI k)), (0, .ref 95)]) [0, 1, 3] rfl ?_
          exact ih (k + 1) (by omega) (nI k) ez9
theorem c_M_loose {S : Nat × (Nat → Int32)} {d n : Nat} {I : mI} {J : mJ} {R : mR} {ko nh nl : Nat} (hn : 122 ≤ n) (hR : m_fin R) (ho : I 95 23 = nI ko) (hk : ko < 7) (hh : I 95 24 = nI nh) (hnh : nh ≤ 6) (hl : I 95 25 = nI nl) (hnl : nl ≤ 10) (hW : WFk I ko)  : RUN S (d + 4) YM_loose [.ref 95] I J R n (some (.int (loN I ko nl (-1) (2 ^ nl)))) I J R n := by
  show AW S _ YM_loose n n _ 0 [(0, .ref 95)] [] I J R n
  obtain ⟨P, hP⟩ : ∃ P, 2 ^ nl = P := ⟨_, rfl⟩
  have hP2 := P_le hP hnl
  refine a_iconst (v := -1) dM_loose_0 (by decide) ?_
  refine a_istore_n (lv' := [(1, .int (-1)), (0, .ref 95)]) dM_loose_1 rfl (by decide) rfl ?_
  refine a_iconstN (a := 0) dM_loose_2 (by decide) ?_
  refine a_istore_n (lv' := [(2, .int (nI 0)), (1, .int (-1)), (0, .ref 95)]) dM_loose_3 rfl (by decide) rfl ?_
  refine l_loN (s0 := (-1)) hn hR ho hk hh hnh hl hnl hW hP hP2 ?_ P 0 (by omega) _ rfl
  refine a_iload_n 1 dM_loose_60 rfl rfl ?_
  exact a_iret dM_loose_61 rfl ⟨by rw [hP], rfl, rfl, rfl⟩
