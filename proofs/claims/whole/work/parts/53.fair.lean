theorem crR_g {I : mI} {md ls cm : Nat → Int32} : crR I md ls cm (I 95 32) (I 95 33) (I 95 34) (I 95 35) (I 95 36) (I 95 37) = m_row (m_row (m_row I 107 md) 108 ls) 109 cm := by
  unfold crR
  have e : cfR (I 95) (I 95 32) (I 95 33) (I 95 34) (I 95 35) (I 95 36) (I 95 37) = I 95 := by
    funext k
    unfold cfR
    repeat' split
    all_goals (first | rfl | (subst_vars; rfl))
  rw [e, m_row_self]
theorem c_M_comesM {S : Nat × (Nat → Int32)} {d n : Nat} {I : mI} {J : mJ} {R : mR} {md ls cm : Nat → Int32} {ko nh nl : Nat} (hn : 122 ≤ n) (hR : m_fin R) (ho : I 95 23 = nI ko) (hk : ko < 7) (hh : I 95 24 = nI nh) (hnh : nh ≤ 6) (hl : I 95 25 = nI nl) (hnl : nl ≤ 10) (hW : WFk I ko) {l h : Nat} (hl10 : l < 10) (hh6 : h < 6) (hx : kOK (ls h)) : RUN S (d + 4) YM_comes [.ref 95, .int (nI l), .int (nI h)] (m_row (m_row (m_row I 107 md) 108 ls) 109 cm) J R n (some (.int (dsR I ko l (ls h)))) (m_row (m_row (m_row I 107 (va_up md h (md h + dsR I ko l (ls h)))) 108 (va_up ls h (oR I ko (19 + l)))) 109 (va_up cm h (cm h + 1))) J R n := by
  have h := c_M_comes (S := S) (d := d) (J := J) (md := md) (ls := ls) (cm := cm) (ni := I 95 32) (le := I 95 33) (sl := I 95 34) (dn := I 95 35) (fa := I 95 36) (id0 := I 95 37) hn hR ho hk hh hnh hl hnl hW hl10 hh6 hx
  rw [crR_g, crR_g] at h
  exact h
abbrev g3 : Type := (Nat → Int32) × (Nat → Int32) × (Nat → Int32)
/-- all letters come, each to its house -/
def acN (ds : Nat → Int32 → Int32) (kd : Nat → Int32) (hv : Nat → Nat) (s0 : g3) : Nat → g3
  | 0 => s0
  | k + 1 => (va_up (acN ds kd hv s0 k).1 (hv k) ((acN ds kd hv s0 k).1 (hv k) + ds k ((acN ds kd hv s0 k).2.1 (hv k))), va_up (acN ds kd hv s0 k).2.1 (hv k) (kd k), va_up (acN ds kd hv s0 k).2.2 (hv k) ((acN ds kd hv s0 k).2.2 (hv k) + 1))
theorem acN_ok {ds : Nat → Int32 → Int32} {kd : Nat → Int32} {hv : Nat → Nat} {s0 : g3} (h0 : ∀ h, h < 6 → kOK (s0.2.1 h)) : ∀ k, (∀ l, l < k → kOK (kd l)) → ∀ h, h < 6 → kOK ((acN ds kd hv s0 k).2.1 h) := by
  intro k
  induction k with
  | zero => intro _ h hh; exact h0 h hh
  | succ k ih =>
    intro hk h hh
    show kOK (va_up (acN ds kd hv s0 k).2.1 (hv k) (kd k) h)
    unfold va_up
    split
    · exact hk k (by omega)
    · exact ih (fun l hl => hk l (by omega)) h hh
/-- as it begins -/
def bg3 (I : mI) (ko : Nat) (md ls cm : Nat → Int32) : g3 := (m_fill (fun h => oR I ko (3 + h)) md 6, m_fill (fun _ => -1) ls 6, m_fill (fun _ => 0) cm 6)
theorem bg3_ok {I : mI} {ko : Nat} {md ls cm : Nat → Int32} : ∀ h, h < 6 → kOK ((bg3 I ko md ls cm).2.1 h) := by
  intro h hh
  show kOK (m_fill (fun _ => (-1 : Int32)) ls 6 h)
  unfold m_fill
  rw [if_pos hh]
  exact Or.inl rfl
theorem bgI_g {I : mI} {ko : Nat} {md ls cm : Nat → Int32} : bgI (m_row (m_row (m_row I 107 md) 108 ls) 109 cm) ko = m_row (m_row (m_row I 107 (bg3 I ko md ls cm).1) 108 (bg3 I ko md ls cm).2.1) 109 (bg3 I ko md ls cm).2.2 := by
  show m_row (m_row (m_row (m_row (m_row (m_row I 107 md) 108 ls) 109 cm) 107 (bg3 I ko md ls cm).1) 108 (bg3 I ko md ls cm).2.1) 109 (bg3 I ko md ls cm).2.2 = _
  rw [m_row_c (a := 109) (b := 107) (by decide), m_row_c (a := 108) (b := 107) (by decide), m_row_row, m_row_c (a := 109) (b := 108) (by decide), m_row_row, m_row_row]
theorem l_fair1 {S : Nat × (Nat → Int32)} {d n : Nat} {I : mI} {J : mJ} {R : mR} {ko nh nl : Nat} (hn : 122 ≤ n) (hR : m_fin R) (ho : I 95 23 = nI ko) (hk : ko < 7) (hh : I 95 24 = nI nh) (hnh : nh ≤ 6) (hl : I 95 25 = nI nl) (hnl : nl ≤ 10) (hW : WFk I ko) {f : Nat → Int32} {hv : Nat → Nat} (hf : ∀ l, l < nl → f l = nI (hv l) ∧ hv l < 6) {s0 : g3}   {Q : Option Value → mI → mJ → mR → Prop} (hI : ∀ h, h < 6 → kOK (s0.2.1 h)) (hx : AW S (d + 5) YM_isFair n n Q 32 [(1, .int (nI nl)), (0, .ref 95)] [] (m_row (m_row (m_row (m_row I 119 f) 107 ((acN (dsR I ko) (fun l => oR I ko (19 + l)) hv s0 nl).1)) 108 ((acN (dsR I ko) (fun l => oR I ko (19 + l)) hv s0 nl).2.1)) 109 ((acN (dsR I ko) (fun l => oR I ko (19 + l)) hv s0 nl).2.2)) J R n) : ∀ m k, k + m = nl → ∀ s : (Nat → Int32) × (Nat → Int32) × (Nat → Int32), acN (dsR I ko) (fun l => oR I ko (19 + l)) hv s0 k = s → AW S (d + 5) YM_isFair n n Q 6 [(1, .int (nI k)), (0, .ref 95)] [] (m_row (m_row (m_row (m_row I 119 f) 107 s.1) 108 s.2.1) 109 s.2.2) J R n := by
  intro m
  induction m with
  | zero =>
    intro k hk9 s es
    rw [show k = nl by omega] at es ⊢
    subst es
    refine a_iload_n 0 dM_isFair_6 rfl rfl ?_
    refine a_aload_n 1 dM_isFair_7 rfl rfl ?_
    refine a_geti dM_isFair_8 fl12_262 rfl ly_95 (by omega) ?_
    rw [show (m_row (m_row (m_row (m_row I 119 f) 107 ((acN (dsR I ko) (fun l => oR I ko (19 + l)) hv s0 nl).1)) 108 ((acN (dsR I ko) (fun l => oR I ko (19 + l)) hv s0 nl).2.1)) 109 ((acN (dsR I ko) (fun l => oR I ko (19 + l)) hv s0 nl).2.2)) 95 25 = (nI nl) from hl]
    refine a_icmp_geN (tgt := 32) dM_isFair_11 (by decide) (by omega) (by omega) (fun _ => ?_) (fun c => False.elim (by omega))
    exact hx
  | succ m ih =>
    intro k hk9 s es
    have hq := acN_ok (ds := dsR I ko) (kd := fun l => oR I ko (19 + l)) (hv := hv) (s0 := s0) hI k (fun l hl => hW.ok (by omega)) (hv k) (hf k (by omega)).2
    rw [es] at hq
    refine a_iload_n 0 dM_isFair_6 rfl rfl ?_
    refine a_aload_n 1 dM_isFair_7 rfl rfl ?_
    refine a_geti dM_isFair_8 fl12_262 rfl ly_95 (by omega) ?_
    rw [show (m_row (m_row (m_row (m_row I 119 f) 107 s.1) 108 s.2.1) 109 s.2.2) 95 25 = (nI nl) from hl]
    refine a_icmp_geN (tgt := 32) dM_isFair_11 (by decide) (by omega) (by omega) (fun c => False.elim (by omega)) (fun _ => ?_)
    refine a_aload_n 1 dM_isFair_14 rfl rfl ?_
    refine a_iload_n 0 dM_isFair_15 rfl rfl ?_
    refine a_aload_n 1 dM_isFair_16 rfl rfl ?_
    refine a_geta (r := 119) dM_isFair_17 fl12_81 rfl ly_95 (by omega) (rf_95_52 hR) ?_
    refine a_iload_n 0 dM_isFair_20 rfl rfl ?_
    refine a_ialdN (a := k) dM_isFair_21 ly_119 (by omega) (by omega) (by decide) ?_
    rw [show (m_row (m_row (m_row (m_row I 119 f) 107 s.1) 108 s.2.1) 109 s.2.2) 119 k = f k from rfl]
    rw [show (f k) = (nI (hv k)) from (hf k (by omega)).1]
    refine a_callV (Q' := m_res (some (.int (dsR I ko k (s.2.1 (hv k))))) (m_row (m_row (m_row (m_row I 119 f) 107 (va_up s.1 (hv k) (s.1 (hv k) + dsR I ko k (s.2.1 (hv k))))) 108 (va_up s.2.1 (hv k) (oR I ko (19 + k)))) 109 (va_up s.2.2 (hv k) (s.2.2 (hv k) + 1))) J R) (as := [.int (nI k), .int (nI (hv k))]) (st := []) dM_isFair_22 ml12_316 rfl (Nat.le_of_ble_eq_true rfl) ly_95 rfl rfl (by decide) (by omega) (Nat.le_of_ble_eq_true rfl) rfl (Nat.le_refl _) (Nat.le_refl _) (c_M_comesM (I := (m_row I 119 f)) hn hR ho hk hh hnh hl hnl hW (by omega) (hf k (by omega)).2 hq) (m_go ?_)
    show AW _ _ _ _ _ _ _ _ [.int (dsR I ko k (s.2.1 (hv k)))] _ _ _ _
    refine a_pop dM_isFair_25 rfl ?_
    refine a_iincN (lv' := [(1, .int (nI (k + 1))), (0, .ref 95)]) (j := 0) dM_isFair_26 rfl (by decide) rfl ?_
    refine a_goto (tgt := 6) dM_isFair_29 (by decide) ?_
    have e' : acN (dsR I ko) (fun l => oR I ko (19 + l)) hv s0 (k + 1) = ((va_up s.1 (hv k) (s.1 (hv k) + dsR I ko k (s.2.1 (hv k)))), (va_up s.2.1 (hv k) (oR I ko (19 + k))), (va_up s.2.2 (hv k) (s.2.2 (hv k) + 1))) := by
      unfold acN
      rw [es]
    exact ih (k + 1) (by omega) ((va_up s.1 (hv k) (s.1 (hv k) + dsR I ko k (s.2.1 (hv k)))), (va_up s.2.1 (hv k) (oR I ko (19 + k))), (va_up s.2.2 (hv k) (s.2.2 (hv k) + 1))) e'
theorem l_fair2 {S : Nat × (Nat → Int32)} {d n : Nat} {I : mI} {J : mJ} {R : mR} {ko nh nl : Nat} (hn : 122 ≤ n) (hR : m_fin R) (ho : I 95 23 = nI ko) (hk : ko < 7) (hh : I 95 24 = nI nh) (hnh : nh ≤ 6) (hl : I 95 25 = nI nl) (hnl : nl ≤ 10) (hW : WFk I ko) {f md ls cm : Nat → Int32}  {Q : Option Value → mI → mJ → mR → Prop} (h0 : ∀ k, k < nh → ¬ (oR I ko (3 + k) ≤ md k) → Q (some (.int 0)) (m_row (m_row (m_row (m_row I 119 f) 107 md) 108 ls) 109 cm) J R) (hx : (∀ k, k < nh → oR I ko (3 + k) ≤ md k) → AW S (d + 5) YM_isFair n n Q 66 [(1, .int (nI nh)), (0, .ref 95)] [] (m_row (m_row (m_row (m_row I 119 f) 107 md) 108 ls) 109 cm) J R n) : ∀ m k, k + m = nh → (∀ j, j < k → oR I ko (3 + j) ≤ md j) → AW S (d + 5) YM_isFair n n Q 34 [(1, .int (nI k)), (0, .ref 95)] [] (m_row (m_row (m_row (m_row I 119 f) 107 md) 108 ls) 109 cm) J R n := by
  intro m
  induction m with
  | zero =>
    intro k hk9 hp
    rw [show k = nh by omega] at hp ⊢
    refine a_iload_n 0 dM_isFair_34 rfl rfl ?_
    refine a_aload_n 1 dM_isFair_35 rfl rfl ?_
    refine a_geti dM_isFair_36 fl12_259 rfl ly_95 (by omega) ?_
    rw [show (m_row (m_row (m_row (m_row I 119 f) 107 md) 108 ls) 109 cm) 95 24 = (nI nh) from hh]
    refine a_icmp_geN (tgt := 66) dM_isFair_39 (by decide) (by omega) (by omega) (fun _ => ?_) (fun c => False.elim (by omega))
    exact hx hp
  | succ m ih =>
    intro k hk9 hp
    refine a_iload_n 0 dM_isFair_34 rfl rfl ?_
    refine a_aload_n 1 dM_isFair_35 rfl rfl ?_
    refine a_geti dM_isFair_36 fl12_259 rfl ly_95 (by omega) ?_
    rw [show (m_row (m_row (m_row (m_row I 119 f) 107 md) 108 ls) 109 cm) 95 24 = (nI nh) from hh]
    refine a_icmp_geN (tgt := 66) dM_isFair_39 (by decide) (by omega) (by omega) (fun c => False.elim (by omega)) (fun _ => ?_)
    refine a_aload_n 1 dM_isFair_42 rfl rfl ?_
    refine a_geta (r := 107) dM_isFair_43 fl12_44 rfl ly_95 (by omega) (rf_95_27 hR) ?_
    refine a_iload_n 0 dM_isFair_46 rfl rfl ?_
    refine a_ialdN (a := k) dM_isFair_47 ly_107 (by omega) (by omega) (by decide) ?_
    rw [show (m_row (m_row (m_row (m_row I 119 f) 107 md) 108 ls) 109 cm) 107 k = md k from rfl]
    refine a_aload_n 1 dM_isFair_48 rfl rfl ?_
    refine a_iconstN (a := 3) dM_isFair_49 (by decide) ?_
    refine a_iload_n 0 dM_isFair_50 rfl rfl ?_
    refine a_iaddN (a := 3) (b := k) dM_isFair_51 ?_
    refine a_callV (Q' := m_res (some (.int (oR I ko (3 + k)))) (m_row (m_row (m_row (m_row I 119 f) 107 md) 108 ls) 109 cm) J R) (as := [.int (nI (3 + k))]) (st := [.int (md k)]) dM_isFair_52 ml12_255 rfl (Nat.le_of_ble_eq_true rfl) ly_95 rfl rfl (by decide) (by omega) (Nat.le_of_ble_eq_true rfl) rfl (Nat.le_refl _) (Nat.le_refl _) (c_M_of hn hR (show (m_row (m_row (m_row (m_row I 119 f) 107 md) 108 ls) 109 cm) 95 23 = nI ko from ho) (by omega)) (m_go ?_)
    show AW _ _ _ _ _ _ _ _ [.int (oR I ko (3 + k)), .int (md k)] _ _ _ _
    refine a_icmp_ge (tgt := 60) dM_isFair_55 (by decide) (fun c55 => ?_) (fun c55 => ?_)
    · refine a_iincN (lv' := [(1, .int (nI (k + 1))), (0, .ref 95)]) (j := 0) dM_isFair_60 rfl (by decide) rfl ?_
      refine a_goto (tgt := 34) dM_isFair_63 (by decide) ?_
      exact ih (k + 1) (by omega) (fun j hj => by
        rcases Nat.lt_or_eq_of_le (Nat.le_of_lt_succ hj) with h1 | h1
        · exact hp j h1
        · subst h1; exact c55)
    · refine a_iconstN (a := 0) dM_isFair_58 (by decide) ?_
      exact a_zret dM_isFair_59 rfl (by rfl) (h0 k (by omega) (fun q => absurd q c55))
abbrev frS (I : mI) (ko nl : Nat) (hv : Nat → Nat) (md ls cm : Nat → Int32) : g3 := acN (dsR I ko) (fun l => oR I ko (19 + l)) hv (bg3 I ko md ls cm) nl
abbrev frP (I : mI) (ko nh nl : Nat) (hv : Nat → Nat) (md ls cm : Nat → Int32) : Prop := ∀ k, k < nh → oR I ko (3 + k) ≤ (frS I ko nl hv md ls cm).1 k
abbrev frV (I : mI) (ko nh nl : Nat) (hv : Nat → Nat) (md ls cm : Nat → Int32) : Int32 := if frP I ko nh nl hv md ls cm then 1 else 0
theorem bgM {S : Nat × (Nat → Int32)} {d n : Nat} {B : mI} {J : mJ} {R : mR} {ko : Nat} {md ls cm : Nat → Int32} (hn : 122 ≤ n) (hR : m_fin R) (ho : B 95 23 = nI ko) (hk : ko < 7) : RUN S (d + 1) YM_begin [.ref 95] (m_row (m_row (m_row B 107 md) 108 ls) 109 cm) J R n none (m_row (m_row (m_row B 107 (bg3 B ko md ls cm).1) 108 (bg3 B ko md ls cm).2.1) 109 (bg3 B ko md ls cm).2.2) J R n := by
  have h := c_M_begin (S := S) (d := d) (n := n) (J := J) (R := R) (I := m_row (m_row (m_row B 107 md) 108 ls) 109 cm) (ko := ko) hn hR ho hk
  rw [bgI_g] at h
  exact h
theorem c_M_isFair {S : Nat × (Nat → Int32)} {d n : Nat} {I : mI} {J : mJ} {R : mR} {f md ls cm : Nat → Int32} {ko nh nl : Nat} (hn : 122 ≤ n) (hR : m_fin R) (ho : I 95 23 = nI ko) (hk : ko < 7) (hh : I 95 24 = nI nh) (hnh : nh ≤ 6) (hl : I 95 25 = nI nl) (hnl : nl ≤ 10) (hW : WFk I ko) {hv : Nat → Nat} (hf : ∀ l, l < nl → f l = nI (hv l) ∧ hv l < 6) : RUN S (d + 5) YM_isFair [.ref 95] (m_row (m_row (m_row (m_row I 119 f) 107 md) 108 ls) 109 cm) J R n (some (.int (frV I ko nh nl hv md ls cm))) (m_row (m_row (m_row (m_row I 119 f) 107 ((frS I ko nl hv md ls cm).1)) 108 ((frS I ko nl hv md ls cm).2.1)) 109 ((frS I ko nl hv md ls cm).2.2)) J R n := by
  show AW S _ YM_isFair n n _ 0 [(0, .ref 95)] [] (m_row (m_row (m_row (m_row I 119 f) 107 md) 108 ls) 109 cm) J R n
  refine a_aload_n 0 dM_isFair_0 rfl rfl ?_
  refine a_callV (Q' := m_res none (m_row (m_row (m_row (m_row I 119 f) 107 ((bg3 I ko md ls cm).1)) 108 ((bg3 I ko md ls cm).2.1)) 109 ((bg3 I ko md ls cm).2.2)) J R) (as := []) (st := []) dM_isFair_1 ml12_268 rfl (Nat.le_of_ble_eq_true rfl) ly_95 rfl rfl (by decide) (by omega) (Nat.le_of_ble_eq_true rfl) rfl (Nat.le_refl _) (Nat.le_refl _) (bgM (B := (m_row I 119 f)) hn hR ho hk) (m_go ?_)
  show AW _ _ _ _ _ _ _ _ [] _ _ _ _
  refine a_iconstN (a := 0) dM_isFair_4 (by decide) ?_
  refine a_istore_n (lv' := [(1, .int (nI 0)), (0, .ref 95)]) dM_isFair_5 rfl (by decide) rfl ?_
  refine l_fair1  hn hR ho hk hh hnh hl hnl hW (f := f) hf (s0 := bg3 I ko md ls cm) bg3_ok ?_ nl 0 (by omega) _ rfl
  refine a_iconstN (a := 0) dM_isFair_32 (by decide) ?_
  refine a_istore_n (lv' := [(1, .int (nI 0)), (0, .ref 95)]) dM_isFair_33 rfl (by decide) rfl ?_
  refine a_locs (lv' := [(1, .int (nI 0)), (0, .ref 95)]) [0, 1] rfl ?_
  refine l_fair2 hn hR ho hk hh hnh hl hnl hW (fun k hk2 hp => ?_) (fun hp => ?_) nh 0 (by omega) (fun j hj => absurd hj (Nat.not_lt_zero _))
  · exact ⟨by unfold frV; rw [if_neg (fun q => hp (q k hk2))], rfl, rfl, rfl⟩
  · refine a_iconstN (a := 1) dM_isFair_66 (by decide) ?_
    exact a_zret dM_isFair_67 rfl (by rfl) ⟨by unfold frV; rw [if_pos hp]; rfl, rfl, rfl, rfl⟩
def hmN (f : Nat → Int32) (l : Nat) : Nat := (f l).toNatClampNeg
theorem WFh.hm {f : Nat → Int32} {nl l : Nat} (h : WFh f nl) (hl : l < nl) : f l = nI (hmN f l) ∧ hmN f l < 6 := by
  obtain ⟨q, hq, e⟩ := h l hl
  unfold hmN
  rw [e, nI_clamp (by omega)]
  exact ⟨rfl, hq⟩
def fbAS (I : mI) (nh : Nat) (b0 : Int32) (k : Nat) (s : Nat × (Nat → Int32)) : Nat × (Nat → Int32) := (if (f_has b0 (nI k)) = 0 then (if (f_has b0 (nI k)) = 0 then (s.1, (va_up s.2 k (I 106 k))) else ((s.1 / nh), (va_up s.2 k (I 106 k)))) else (if (f_has b0 (nI k)) = 0 then (s.1, (va_up s.2 k (nI (s.1 % nh)))) else ((s.1 / nh), (va_up s.2 k (nI (s.1 % nh))))))
def fbA (I : mI) (nh : Nat) (b0 : Int32) (s0 : Nat × (Nat → Int32)) : Nat → Nat × (Nat → Int32)
  | 0 => s0
  | k + 1 => fbAS I nh b0 k (fbA I nh b0 s0 k)
theorem l_fbA {S : Nat × (Nat → Int32)} {d n : Nat} {I : mI} {J : mJ} {R : mR} {ko nh nl : Nat} (hn : 122 ≤ n) (hR : m_fin R) (ho : I 95 23 = nI ko) (hk : ko < 7) (hh : I 95 24 = nI nh) (hnh : nh ≤ 6) (hl : I 95 25 = nI nl) (hnl : nl ≤ 10) (hW : WFk I ko) (hnh1 : 1 ≤ nh) (hH : WFh (I 106) nl) {b0 : Int32} {md ls cm : Nat → Int32} {c w W : Nat} (hW2 : W ≤ 216) (hw2 : w < W)  {s0 : Nat × (Nat → Int32)} {Q : Option Value → mI → mJ → mR → Prop} (hI : ∀ k, (fbA I nh b0 s0 k).1 < 217) (hx : AW S (d + 7) YM_fairBy n n Q 89 [(6, .int (nI nl)), (5, .int (nI (fbA I nh b0 s0 nl).1)), (0, .ref 95), (1, .int b0), (2, .int (nI W)), (3, .int (nI c)), (4, .int (nI w))] [] (m_row (m_row (m_row (m_row I 119 ((fbA I nh b0 s0 nl).2)) 107 md) 108 ls) 109 cm) J R n) : ∀ m k, k + m = nl → ∀ s : Nat × (Nat → Int32), fbA I nh b0 s0 k = s → AW S (d + 7) YM_fairBy n n Q 18 [(6, .int (nI k)), (5, .int (nI s.1)), (0, .ref 95), (1, .int b0), (2, .int (nI W)), (3, .int (nI c)), (4, .int (nI w))] [] (m_row (m_row (m_row (m_row I 119 s.2) 107 md) 108 ls) 109 cm) J R n := by
  intro m
  induction m with
  | zero =>
    intro k hk9 s es
    rw [show k = nl by omega] at es ⊢
    subst es
    refine a_iload 0 dM_fairBy_18 rfl ?_
    refine a_aload_n 2 dM_fairBy_20 rfl rfl ?_
    refine a_geti dM_fairBy_21 fl12_262 rfl ly_95 (by omega) ?_
    rw [show (m_row (m_row (m_row (m_row I 119 ((fbA I nh b0 s0 nl).2)) 107 md) 108 ls) 109 cm) 95 25 = (nI nl) from hl]
    refine a_icmp_geN (tgt := 89) dM_fairBy_24 (by decide) (by omega) (by omega) (fun _ => ?_) (fun c => False.elim (by omega))
    exact hx
  | succ m ih =>
    intro k hk9 s es
    have hto := hI k
    rw [es] at hto
    refine a_iload 0 dM_fairBy_18 rfl ?_
    refine a_aload_n 2 dM_fairBy_20 rfl rfl ?_
    refine a_geti dM_fairBy_21 fl12_262 rfl ly_95 (by omega) ?_
    rw [show (m_row (m_row (m_row (m_row I 119 s.2) 107 md) 108 ls) 109 cm) 95 25 = (nI nl) from hl]
    refine a_icmp_geN (tgt := 89) dM_fairBy_24 (by decide) (by omega) (by omega) (fun c => False.elim (by omega)) (fun _ => ?_)
    refine a_aload_n 2 dM_fairBy_27 rfl rfl ?_
    refine a_geta (r := 119) dM_fairBy_28 fl12_81 rfl ly_95 (by omega) (rf_95_52 hR) ?_
    refine a_iload 0 dM_fairBy_31 rfl ?_
    refine a_iload_n 3 dM_fairBy_33 rfl rfl ?_
    refine a_iload 0 dM_fairBy_34 rfl ?_
    refine a_callS (Q' := m_res (some (.int (f_has b0 (nI k)))) (m_row (m_row (m_row (m_row I 119 s.2) 107 md) 108 ls) 109 cm) J R) (as := [.int b0, .int (nI k)]) (st := [.int (nI k), .ref 119]) dM_fairBy_36 ml12_94 rfl (Nat.le_of_ble_eq_true rfl) (Nat.le_of_ble_eq_true rfl) rfl (Nat.le_refl _) (Nat.le_refl _) c_M_has (m_go ?_)
    show AW _ _ _ _ _ _ _ _ [.int (f_has b0 (nI k)), .int (nI k), .ref 119] _ _ _ _
    refine a_if_eq (tgt := 52) dM_fairBy_39 (by decide) (fun c39 => ?_) (fun c39 => ?_)
    · refine a_aload_n 2 dM_fairBy_52 rfl rfl ?_
      refine a_geta (r := 106) dM_fairBy_53 fl12_41 rfl ly_95 (by omega) (rf_95_26 hR) ?_
      refine a_iload 0 dM_fairBy_56 rfl ?_
      refine a_ialdN (a := k) dM_fairBy_58 ly_106 (by omega) (by omega) (by decide) ?_
      rw [show (m_row (m_row (m_row (m_row I 119 s.2) 107 md) 108 ls) 109 cm) 106 k = I 106 k from rfl]
      refine a_iastN (a := k) dM_fairBy_59 ly_119 (by omega) (by omega) (by decide) ?_
      rw [show m_up (m_row (m_row (m_row (m_row I 119 s.2) 107 md) 108 ls) 109 cm) 119 k (I 106 k) = (m_row (m_row (m_row (m_row I 119 (va_up s.2 k (I 106 k))) 107 md) 108 ls) 109 cm) from (by rw [m_up_comm (by decide), m_up_comm (by decide), m_up_comm (by decide), m_up_r])]
      refine a_iload_n 3 dM_fairBy_60 rfl rfl ?_
      refine a_iload 0 dM_fairBy_61 rfl ?_
      refine a_callS (Q' := m_res (some (.int (f_has b0 (nI k)))) (m_row (m_row (m_row (m_row I 119 (va_up s.2 k (I 106 k))) 107 md) 108 ls) 109 cm) J R) (as := [.int b0, .int (nI k)]) (st := []) dM_fairBy_63 ml12_94 rfl (Nat.le_of_ble_eq_true rfl) (Nat.le_of_ble_eq_true rfl) rfl (Nat.le_refl _) (Nat.le_refl _) c_M_has (m_go ?_)
      show AW _ _ _ _ _ _ _ _ [.int (f_has b0 (nI k))] _ _ _ _
      refine a_if_eq (tgt := 79) dM_fairBy_66 (by decide) (fun c66 => ?_) (fun c66 => ?_)
      · refine a_iload 1 dM_fairBy_79 rfl ?_
        refine a_istore (lv' := [(5, .int (nI s.1)), (6, .int (nI k)), (0, .ref 95), (1, .int b0), (2, .int (nI W)), (3, .int (nI c)), (4, .int (nI w))]) dM_fairBy_81 (by decide) rfl ?_
        refine a_iincN (lv' := [(6, .int (nI (k + 1))), (5, .int (nI s.1)), (0, .ref 95), (1, .int b0), (2, .int (nI W)), (3, .int (nI c)), (4, .int (nI w))]) (j := 1) dM_fairBy_83 rfl (by decide) rfl ?_
        refine a_goto (tgt := 18) dM_fairBy_86 (by decide) ?_
        have e' : fbA I nh b0 s0 (k + 1) = (s.1, (va_up s.2 k (I 106 k))) := by
          show fbAS I nh b0 k (fbA I nh b0 s0 k) = _
          rw [es]
          unfold fbAS
          rw [if_pos c39, if_pos c66]
        exact ih (k + 1) (by omega) (s.1, (va_up s.2 k (I 106 k))) e'
      · refine a_iload 1 dM_fairBy_69 rfl ?_
        refine a_aload_n 2 dM_fairBy_71 rfl rfl ?_
        refine a_geti dM_fairBy_72 fl12_259 rfl ly_95 (by omega) ?_
        rw [show (m_row (m_row (m_row (m_row I 119 (va_up s.2 k (I 106 k))) 107 md) 108 ls) 109 cm) 95 24 = (nI nh) from hh]
        refine a_idivN dM_fairBy_75 (by omega) (by omega) (by omega) ?_
        refine a_goto (tgt := 81) dM_fairBy_76 (by decide) ?_
        refine a_istore (lv' := [(5, .int (nI (s.1 / nh))), (6, .int (nI k)), (0, .ref 95), (1, .int b0), (2, .int (nI W)), (3, .int (nI c)), (4, .int (nI w))]) dM_fairBy_81 (by decide) rfl ?_
        refine a_iincN (lv' := [(6, .int (nI (k + 1))), (5, .int (nI (s.1 / nh))), (0, .ref 95), (1, .int b0), (2, .int (nI W)), (3, .int (nI c)), (4, .int (nI w))]) (j := 1) dM_fairBy_83 rfl (by decide) rfl ?_
        refine a_goto (tgt := 18) dM_fairBy_86 (by decide) ?_
        have e' : fbA I nh b0 s0 (k + 1) = ((s.1 / nh), (va_up s.2 k (I 106 k))) := by
          show fbAS I nh b0 k (fbA I nh b0 s0 k) = _
          rw [es]
          unfold fbAS
          rw [if_pos c39, if_neg c66]
        exact ih (k + 1) (by omega) ((s.1 / nh), (va_up s.2 k (I 106 k))) e'
    · refine a_iload 1 dM_fairBy_42 rfl ?_
      refine a_aload_n 2 dM_fairBy_44 rfl rfl ?_
      refine a_geti dM_fairBy_45 fl12_259 rfl ly_95 (by omega) ?_
      rw [show (m_row (m_row (m_row (m_row I 119 s.2) 107 md) 108 ls) 109 cm) 95 24 = (nI nh) from hh]
      refine a_iremN dM_fairBy_48 (by omega) (by omega) (by omega) ?_
      refine a_goto (tgt := 59) dM_fairBy_49 (by decide) ?_
      refine a_iastN (a := k) dM_fairBy_59 ly_119 (by omega) (by omega) (by decide) ?_
      rw [show m_up (m_row (m_row (m_row (m_row I 119 s.2) 107 md) 108 ls) 109 cm) 119 k (nI (s.1 % nh)) = (m_row (m_row (m_row (m_row I 119 (va_up s.2 k (nI (s.1 % nh)))) 107 md) 108 ls) 109 cm) from (by rw [m_up_comm (by decide), m_up_comm (by decide), m_up_comm (by decide), m_up_r])]
      refine a_iload_n 3 dM_fairBy_60 rfl rfl ?_
      refine a_iload 0 dM_fairBy_61 rfl ?_
      refine a_callS (Q' := m_res (some (.int (f_has b0 (nI k)))) (m_row (m_row (m_row (m_row I 119 (va_up s.2 k (nI (s.1 % nh)))) 107 md) 108 ls) 109 cm) J R) (as := [.int b0, .int (nI k)]) (st := []) dM_fairBy_63 ml12_94 rfl (Nat.le_of_ble_eq_true rfl) (Nat.le_of_ble_eq_true rfl) rfl (Nat.le_refl _) (Nat.le_refl _) c_M_has (m_go ?_)
      show AW _ _ _ _ _ _ _ _ [.int (f_has b0 (nI k))] _ _ _ _
      refine a_if_eq (tgt := 79) dM_fairBy_66 (by decide) (fun c66 => ?_) (fun c66 => ?_)
      · refine a_iload 1 dM_fairBy_79 rfl ?_
        refine a_istore (lv' := [(5, .int (nI s.1)), (6, .int (nI k)), (0, .ref 95), (1, .int b0), (2, .int (nI W)), (3, .int (nI c)), (4, .int (nI w))]) dM_fairBy_81 (by decide) rfl ?_
        refine a_iincN (lv' := [(6, .int (nI (k + 1))), (5, .int (nI s.1)), (0, .ref 95), (1, .int b0), (2, .int (nI W)), (3, .int (nI c)), (4, .int (nI w))]) (j := 1) dM_fairBy_83 rfl (by decide) rfl ?_
        refine a_goto (tgt := 18) dM_fairBy_86 (by decide) ?_
        have e' : fbA I nh b0 s0 (k + 1) = (s.1, (va_up s.2 k (nI (s.1 % nh)))) := by
          show fbAS I nh b0 k (fbA I nh b0 s0 k) = _
          rw [es]
          unfold fbAS
          rw [if_neg c39, if_pos c66]
        exact ih (k + 1) (by omega) (s.1, (va_up s.2 k (nI (s.1 % nh)))) e'
      · refine a_iload 1 dM_fairBy_69 rfl ?_
        refine a_aload_n 2 dM_fairBy_71 rfl rfl ?_
        refine a_geti dM_fairBy_72 fl12_259 rfl ly_95 (by omega) ?_
        rw [show (m_row (m_row (m_row (m_row I 119 (va_up s.2 k (nI (s.1 % nh)))) 107 md) 108 ls) 109 cm) 95 24 = (nI nh) from hh]
        refine a_idivN dM_fairBy_75 (by omega) (by omega) (by omega) ?_
        refine a_goto (tgt := 81) dM_fairBy_76 (by decide) ?_
        refine a_istore (lv' := [(5, .int (nI (s.1 / nh))), (6, .int (nI k)), (0, .ref 95), (1, .int b0), (2, .int (nI W)), (3, .int (nI c)), (4, .int (nI w))]) dM_fairBy_81 (by decide) rfl ?_
        refine a_iincN (lv' := [(6, .int (nI (k + 1))), (5, .int (nI (s.1 / nh))), (0, .ref 95), (1, .int b0), (2, .int (nI W)), (3, .int (nI c)), (4, .int (nI w))]) (j := 1) dM_fairBy_83 rfl (by decide) rfl ?_
        refine a_goto (tgt := 18) dM_fairBy_86 (by decide) ?_
        have e' : fbA I nh b0 s0 (k + 1) = ((s.1 / nh), (va_up s.2 k (nI (s.1 % nh)))) := by
          show fbAS I nh b0 k (fbA I nh b0 s0 k) = _
          rw [es]
          unfold fbAS
          rw [if_neg c39, if_neg c66]
        exact ih (k + 1) (by omega) ((s.1 / nh), (va_up s.2 k (nI (s.1 % nh)))) e'
theorem fbA_to {I : mI} {nh w : Nat} {b0 : Int32} {f : Nat → Int32} : ∀ k, (fbA I nh b0 (w, f) k).1 ≤ w := by
  intro k
  induction k with
  | zero => exact Nat.le_refl _
  | succ k ih =>
    unfold fbA fbAS
    have := Nat.div_le_self (fbA I nh b0 (w, f) k).1 nh
    split <;> (first | exact ih | (show (fbA I nh b0 (w, f) k).1 / nh ≤ w; omega))
theorem fbA_ok {I : mI} {nh nl w : Nat} {b0 : Int32} {f : Nat → Int32} (hH : WFh (I 106) nl) (h1 : 1 ≤ nh) (h6 : nh ≤ 6) : ∀ k, k ≤ nl → ∀ l, l < k → (fbA I nh b0 (w, f) k).2 l = nI (hmN (fbA I nh b0 (w, f) k).2 l) ∧ hmN (fbA I nh b0 (w, f) k).2 l < 6 := by
  intro k
  induction k with
  | zero => intro _ l hl; omega
  | succ k ih =>
    intro hk l hl
    have key : ∀ v : Int32, (∃ q, q < 6 ∧ v = nI q) → va_up (fbA I nh b0 (w, f) k).2 k v l = nI (hmN (va_up (fbA I nh b0 (w, f) k).2 k v) l) ∧ hmN (va_up (fbA I nh b0 (w, f) k).2 k v) l < 6 := by
      intro v hv
      unfold hmN va_up
      by_cases e : l = k
      · obtain ⟨q, hq, rfl⟩ := hv
        rw [if_pos e, nI_clamp (by omega)]
        exact ⟨rfl, hq⟩
      · rw [if_neg e]
        exact ih (by omega) l (by omega)
    have ka := key (I 106 k) (hH k (by omega))
    have kb := key (nI ((fbA I nh b0 (w, f) k).1 % nh)) ⟨_, by have := Nat.mod_lt (fbA I nh b0 (w, f) k).1 (show 0 < nh by omega); omega, rfl⟩
    by_cases c : f_has b0 (nI k) = 0
    · have e : fbA I nh b0 (w, f) (k + 1) = ((fbA I nh b0 (w, f) k).1, va_up (fbA I nh b0 (w, f) k).2 k (I 106 k)) := by
        show fbAS I nh b0 k (fbA I nh b0 (w, f) k) = _
        unfold fbAS
        rw [if_pos c, if_pos c]
      rw [e]
      exact ka
    · have e : fbA I nh b0 (w, f) (k + 1) = ((fbA I nh b0 (w, f) k).1 / nh, va_up (fbA I nh b0 (w, f) k).2 k (nI ((fbA I nh b0 (w, f) k).1 % nh))) := by
        show fbAS I nh b0 k (fbA I nh b0 (w, f) k) = _
        unfold fbAS
        rw [if_neg c, if_neg c]
      rw [e]
      exact kb
def fbBS (I : mI) (ko nh nl : Nat) (b0 : Int32) (k : Nat) (s : Nat × (Nat → Int32) × (Nat → Int32) × (Nat → Int32) × (Nat → Int32)) : Nat × (Nat → Int32) × (Nat → Int32) × (Nat → Int32) × (Nat → Int32) := (if (frV I ko nh nl (hmN (fbA I nh b0 (k, s.2.1) nl).2) s.2.2.1 s.2.2.2.1 s.2.2.2.2) = 0 then ((s.1 + 0), (fbA I nh b0 (k, s.2.1) nl).2, ((frS I ko nl (hmN (fbA I nh b0 (k, s.2.1) nl).2) s.2.2.1 s.2.2.2.1 s.2.2.2.2).1), ((frS I ko nl (hmN (fbA I nh b0 (k, s.2.1) nl).2) s.2.2.1 s.2.2.2.1 s.2.2.2.2).2.1), ((frS I ko nl (hmN (fbA I nh b0 (k, s.2.1) nl).2) s.2.2.1 s.2.2.2.1 s.2.2.2.2).2.2)) else ((s.1 + 1), (fbA I nh b0 (k, s.2.1) nl).2, ((frS I ko nl (hmN (fbA I nh b0 (k, s.2.1) nl).2) s.2.2.1 s.2.2.2.1 s.2.2.2.2).1), ((frS I ko nl (hmN (fbA I nh b0 (k, s.2.1) nl).2) s.2.2.1 s.2.2.2.1 s.2.2.2.2).2.1), ((frS I ko nl (hmN (fbA I nh b0 (k, s.2.1) nl).2) s.2.2.1 s.2.2.2.1 s.2.2.2.2).2.2)))
def fbB (I : mI) (ko nh nl : Nat) (b0 : Int32) (s0 : Nat × (Nat → Int32) × (Nat → Int32) × (Nat → Int32) × (Nat → Int32)) : Nat → Nat × (Nat → Int32) × (Nat → Int32) × (Nat → Int32) × (Nat → Int32)
  | 0 => s0
  | k + 1 => fbBS I ko nh nl b0 k (fbB I ko nh nl b0 s0 k)
theorem l_fbB {S : Nat × (Nat → Int32)} {d n : Nat} {I : mI} {J : mJ} {R : mR} {ko nh nl : Nat} (hn : 122 ≤ n) (hR : m_fin R) (ho : I 95 23 = nI ko) (hk : ko < 7) (hh : I 95 24 = nI nh) (hnh : nh ≤ 6) (hl : I 95 25 = nI nl) (hnl : nl ≤ 10) (hW : WFk I ko) (hnh1 : 1 ≤ nh) (hH : WFh (I 106) nl) {b0 : Int32} {W : Nat} (hW2 : W ≤ 216)  {s0 : Nat × (Nat → Int32) × (Nat → Int32) × (Nat → Int32) × (Nat → Int32)} {Q : Option Value → mI → mJ → mR → Prop}  (hx : AW S (d + 7) YM_fairBy n n Q 110 [(4, .int (nI W)), (3, .int (nI (fbB I ko nh nl b0 s0 W).1)), (0, .ref 95), (1, .int b0), (2, .int (nI W))] [] (m_row (m_row (m_row (m_row I 119 ((fbB I ko nh nl b0 s0 W).2.1)) 107 ((fbB I ko nh nl b0 s0 W).2.2.1)) 108 ((fbB I ko nh nl b0 s0 W).2.2.2.1)) 109 ((fbB I ko nh nl b0 s0 W).2.2.2.2)) J R n) : ∀ m k, k + m = W → ∀ s : Nat × (Nat → Int32) × (Nat → Int32) × (Nat → Int32) × (Nat → Int32), fbB I ko nh nl b0 s0 k = s → AW S (d + 7) YM_fairBy n n Q 5 [(4, .int (nI k)), (3, .int (nI s.1)), (0, .ref 95), (1, .int b0), (2, .int (nI W))] [] (m_row (m_row (m_row (m_row I 119 s.2.1) 107 s.2.2.1) 108 s.2.2.2.1) 109 s.2.2.2.2) J R n := by
  intro m
  induction m with
  | zero =>
    intro k hk9 s es
    rw [show k = W by omega] at es ⊢
    subst es
    refine a_iload 0 dM_fairBy_5 rfl ?_
    refine a_iload_n 4 dM_fairBy_7 rfl rfl ?_
    refine a_icmp_geN (tgt := 110) dM_fairBy_8 (by decide) (by omega) (by omega) (fun _ => ?_) (fun c => False.elim (by omega))
    exact hx
  | succ m ih =>
    intro k hk9 s es
    refine a_iload 0 dM_fairBy_5 rfl ?_
    refine a_iload_n 4 dM_fairBy_7 rfl rfl ?_
    refine a_icmp_geN (tgt := 110) dM_fairBy_8 (by decide) (by omega) (by omega) (fun c => False.elim (by omega)) (fun _ => ?_)
    refine a_iload 0 dM_fairBy_11 rfl ?_
    refine a_istore (lv' := [(5, .int (nI k)), (4, .int (nI k)), (3, .int (nI s.1)), (0, .ref 95), (1, .int b0), (2, .int (nI W))]) dM_fairBy_13 (by decide) rfl ?_
    refine a_iconstN (a := 0) dM_fairBy_15 (by decide) ?_
    refine a_istore (lv' := [(6, .int (nI 0)), (5, .int (nI k)), (4, .int (nI k)), (3, .int (nI s.1)), (0, .ref 95), (1, .int b0), (2, .int (nI W))]) dM_fairBy_16 (by decide) rfl ?_
    refine a_locs (lv' := [(6, .int (nI 0)), (5, .int (nI k)), (0, .ref 95), (1, .int b0), (2, .int (nI W)), (3, .int (nI s.1)), (4, .int (nI k))]) [0, 1, 4, 5, 6, 3, 2] rfl ?_
    refine l_fbA (s0 := (k, s.2.1)) hn hR ho hk hh hnh hl hnl hW hnh1 hH (b0 := b0) (c := s.1) (w := k) (W := W) hW2 (by omega) (fun j => by have := fbA_to (I := I) (nh := nh) (w := k) (b0 := b0) (f := s.2.1) j; omega) ?_ nl 0 (by omega) _ rfl
    refine a_iload_n 5 dM_fairBy_89 rfl rfl ?_
    refine a_aload_n 2 dM_fairBy_90 rfl rfl ?_
    refine a_callV (Q' := m_res (some (.int (frV I ko nh nl (hmN (fbA I nh b0 (k, s.2.1) nl).2) s.2.2.1 s.2.2.2.1 s.2.2.2.2))) (m_row (m_row (m_row (m_row I 119 (fbA I nh b0 (k, s.2.1) nl).2) 107 ((frS I ko nl (hmN (fbA I nh b0 (k, s.2.1) nl).2) s.2.2.1 s.2.2.2.1 s.2.2.2.2).1)) 108 ((frS I ko nl (hmN (fbA I nh b0 (k, s.2.1) nl).2) s.2.2.1 s.2.2.2.1 s.2.2.2.2).2.1)) 109 ((frS I ko nl (hmN (fbA I nh b0 (k, s.2.1) nl).2) s.2.2.1 s.2.2.2.1 s.2.2.2.2).2.2)) J R) (as := []) (st := [.int (nI s.1)]) dM_fairBy_91 ml12_485 rfl (Nat.le_of_ble_eq_true rfl) ly_95 rfl rfl (by decide) (by omega) (Nat.le_of_ble_eq_true rfl) rfl (Nat.le_refl _) (Nat.le_refl _) (c_M_isFair hn hR ho hk hh hnh hl hnl hW (hv := hmN (fbA I nh b0 (k, s.2.1) nl).2) (fbA_ok hH hnh1 hnh nl (Nat.le_refl _))) (m_go ?_)
    show AW _ _ _ _ _ _ _ _ [.int (frV I ko nh nl (hmN (fbA I nh b0 (k, s.2.1) nl).2) s.2.2.1 s.2.2.2.1 s.2.2.2.2), .int (nI s.1)] _ _ _ _
    refine a_if_eq (tgt := 101) dM_fairBy_94 (by decide) (fun c94 => ?_) (fun c94 => ?_)
    · refine a_iconstN (a := 0) dM_fairBy_101 (by decide) ?_
      refine a_iaddN (a := s.1) (b := 0) dM_fairBy_102 ?_
      refine a_istore_n (lv' := [(3, .int (nI (s.1 + 0))), (6, .int (nI nl)), (5, .int (nI (fbA I nh b0 (k, s.2.1) nl).1)), (0, .ref 95), (1, .int b0), (2, .int (nI W)), (4, .int (nI k))]) dM_fairBy_103 rfl (by decide) rfl ?_
      refine a_iincN (lv' := [(4, .int (nI (k + 1))), (3, .int (nI (s.1 + 0))), (6, .int (nI nl)), (5, .int (nI (fbA I nh b0 (k, s.2.1) nl).1)), (0, .ref 95), (1, .int b0), (2, .int (nI W))]) (j := 6) dM_fairBy_104 rfl (by decide) rfl ?_
      refine a_goto (tgt := 5) dM_fairBy_107 (by decide) ?_
      have e' : fbB I ko nh nl b0 s0 (k + 1) = ((s.1 + 0), (fbA I nh b0 (k, s.2.1) nl).2, ((frS I ko nl (hmN (fbA I nh b0 (k, s.2.1) nl).2) s.2.2.1 s.2.2.2.1 s.2.2.2.2).1), ((frS I ko nl (hmN (fbA I nh b0 (k, s.2.1) nl).2) s.2.2.1 s.2.2.2.1 s.2.2.2.2).2.1), ((frS I ko nl (hmN (fbA I nh b0 (k, s.2.1) nl).2) s.2.2.1 s.2.2.2.1 s.2.2.2.2).2.2)) := by
        show fbBS I ko nh nl b0 k (fbB I ko nh nl b0 s0 k) = _
        rw [es]
        unfold fbBS
        rw [if_pos c94]
      refine a_locs (lv' := [(4, .int (nI (k + 1))), (3, .int (nI (s.1 + 0))), (0, .ref 95), (1, .int b0), (2, .int (nI W))]) [0, 1, 4, 5, 6] rfl ?_
      exact ih (k + 1) (by omega) ((s.1 + 0), (fbA I nh b0 (k, s.2.1) nl).2, ((frS I ko nl (hmN (fbA I nh b0 (k, s.2.1) nl).2) s.2.2.1 s.2.2.2.1 s.2.2.2.2).1), ((frS I ko nl (hmN (fbA I nh b0 (k, s.2.1) nl).2) s.2.2.1 s.2.2.2.1 s.2.2.2.2).2.1), ((frS I ko nl (hmN (fbA I nh b0 (k, s.2.1) nl).2) s.2.2.1 s.2.2.2.1 s.2.2.2.2).2.2)) e'
    · refine a_iconstN (a := 1) dM_fairBy_97 (by decide) ?_
      refine a_goto (tgt := 102) dM_fairBy_98 (by decide) ?_
      refine a_iaddN (a := s.1) (b := 1) dM_fairBy_102 ?_
      refine a_istore_n (lv' := [(3, .int (nI (s.1 + 1))), (6, .int (nI nl)), (5, .int (nI (fbA I nh b0 (k, s.2.1) nl).1)), (0, .ref 95), (1, .int b0), (2, .int (nI W)), (4, .int (nI k))]) dM_fairBy_103 rfl (by decide) rfl ?_
      refine a_iincN (lv' := [(4, .int (nI (k + 1))), (3, .int (nI (s.1 + 1))), (6, .int (nI nl)), (5, .int (nI (fbA I nh b0 (k, s.2.1) nl).1)), (0, .ref 95), (1, .int b0), (2, .int (nI W))]) (j := 6) dM_fairBy_104 rfl (by decide) rfl ?_
      refine a_goto (tgt := 5) dM_fairBy_107 (by decide) ?_
      have e' : fbB I ko nh nl b0 s0 (k + 1) = ((s.1 + 1), (fbA I nh b0 (k, s.2.1) nl).2, ((frS I ko nl (hmN (fbA I nh b0 (k, s.2.1) nl).2) s.2.2.1 s.2.2.2.1 s.2.2.2.2).1), ((frS I ko nl (hmN (fbA I nh b0 (k, s.2.1) nl).2) s.2.2.1 s.2.2.2.1 s.2.2.2.2).2.1), ((frS I ko nl (hmN (fbA I nh b0 (k, s.2.1) nl).2) s.2.2.1 s.2.2.2.1 s.2.2.2.2).2.2)) := by
        show fbBS I ko nh nl b0 k (fbB I ko nh nl b0 s0 k) = _
        rw [es]
        unfold fbBS
        rw [if_neg c94]
      refine a_locs (lv' := [(4, .int (nI (k + 1))), (3, .int (nI (s.1 + 1))), (0, .ref 95), (1, .int b0), (2, .int (nI W))]) [0, 1, 4, 5, 6] rfl ?_
      exact ih (k + 1) (by omega) ((s.1 + 1), (fbA I nh b0 (k, s.2.1) nl).2, ((frS I ko nl (hmN (fbA I nh b0 (k, s.2.1) nl).2) s.2.2.1 s.2.2.2.1 s.2.2.2.2).1), ((frS I ko nl (hmN (fbA I nh b0 (k, s.2.1) nl).2) s.2.2.1 s.2.2.2.1 s.2.2.2.2).2.1), ((frS I ko nl (hmN (fbA I nh b0 (k, s.2.1) nl).2) s.2.2.1 s.2.2.2.1 s.2.2.2.2).2.2)) e'
abbrev fb5 : Type := Nat × (Nat → Int32) × (Nat → Int32) × (Nat → Int32) × (Nat → Int32)
theorem fbB_le {I : mI} {ko nh nl : Nat} {b0 : Int32} {f md ls cm : Nat → Int32} : ∀ k, (fbB I ko nh nl b0 (0, f, md, ls, cm) k).1 ≤ k := by
  intro k
  induction k with
  | zero => exact Nat.le_refl _
  | succ k ih =>
    unfold fbB fbBS
    split
    · show (fbB I ko nh nl b0 (0, f, md, ls, cm) k).1 + _ ≤ k + 1; omega
    · show (fbB I ko nh nl b0 (0, f, md, ls, cm) k).1 + _ ≤ k + 1; omega
theorem c_M_fairBy {S : Nat × (Nat → Int32)} {d n : Nat} {I : mI} {J : mJ} {R : mR} {f md ls cm : Nat → Int32} {ko nh nl : Nat} (hn : 122 ≤ n) (hR : m_fin R) (ho : I 95 23 = nI ko) (hk : ko < 7) (hh : I 95 24 = nI nh) (hnh : nh ≤ 6) (hl : I 95 25 = nI nl) (hnl : nl ≤ 10) (hW : WFk I ko) (hnh1 : 1 ≤ nh) (hH : WFh (I 106) nl) {b0 : Int32} {W : Nat} (hW2 : W ≤ 216) : RUN S (d + 7) YM_fairBy [.ref 95, .int b0, .int (nI W)] (m_row (m_row (m_row (m_row I 119 f) 107 md) 108 ls) 109 cm) J R n (some (.int (nI (fbB I ko nh nl b0 (0, f, md, ls, cm) W).1))) (m_row (m_row (m_row (m_row I 119 (fbB I ko nh nl b0 (0, f, md, ls, cm) W).2.1) 107 ((fbB I ko nh nl b0 (0, f, md, ls, cm) W).2.2.1)) 108 ((fbB I ko nh nl b0 (0, f, md, ls, cm) W).2.2.2.1)) 109 ((fbB I ko nh nl b0 (0, f, md, ls, cm) W).2.2.2.2)) J R n := by
  show AW S _ YM_fairBy n n _ 0 [(0, .ref 95), (1, .int b0), (2, .int (nI W))] [] (m_row (m_row (m_row (m_row I 119 f) 107 md) 108 ls) 109 cm) J R n
  refine a_iconstN (a := 0) dM_fairBy_0 (by decide) ?_
  refine a_istore_n (lv' := [(3, .int (nI 0)), (0, .ref 95), (1, .int b0), (2, .int (nI W))]) dM_fairBy_1 rfl (by decide) rfl ?_
  refine a_iconstN (a := 0) dM_fairBy_2 (by decide) ?_
  refine a_istore (lv' := [(4, .int (nI 0)), (3, .int (nI 0)), (0, .ref 95), (1, .int b0), (2, .int (nI W))]) dM_fairBy_3 (by decide) rfl ?_
  refine l_fbB (s0 := (0, f, md, ls, cm)) hn hR ho hk hh hnh hl hnl hW hnh1 hH hW2 ?_ W 0 (by omega) _ rfl
  refine a_iload_n 1 dM_fairBy_110 rfl rfl ?_
  exact a_iret dM_fairBy_111 rfl ⟨rfl, rfl, rfl, rfl⟩
def skNS (I : mI) (ko nh nl q W : Nat) (k : Nat) (s : Int64 × Int64 × (Nat → Int32) × (Nat → Int32) × (Nat → Int32) × (Nat → Int32)) : Int64 × Int64 × (Nat → Int32) × (Nat → Int32) × (Nat → Int32) × (Nat → Int32) := (if (onesN (nI k) 10) = q then ((s.1 + (Int32.toInt64 (nI (fbB I ko nh nl (nI k) (0, s.2.2.1, s.2.2.2.1, s.2.2.2.2.1, s.2.2.2.2.2) W).1))), (s.2.1 + (Int32.toInt64 (nI W))), (fbB I ko nh nl (nI k) (0, s.2.2.1, s.2.2.2.1, s.2.2.2.2.1, s.2.2.2.2.2) W).2.1, ((fbB I ko nh nl (nI k) (0, s.2.2.1, s.2.2.2.1, s.2.2.2.2.1, s.2.2.2.2.2) W).2.2.1), ((fbB I ko nh nl (nI k) (0, s.2.2.1, s.2.2.2.1, s.2.2.2.2.1, s.2.2.2.2.2) W).2.2.2.1), ((fbB I ko nh nl (nI k) (0, s.2.2.1, s.2.2.2.1, s.2.2.2.2.1, s.2.2.2.2.2) W).2.2.2.2)) else (s.1, s.2.1, s.2.2.1, s.2.2.2.1, s.2.2.2.2.1, s.2.2.2.2.2))
def skN (I : mI) (ko nh nl q W : Nat) (s0 : Int64 × Int64 × (Nat → Int32) × (Nat → Int32) × (Nat → Int32) × (Nat → Int32)) : Nat → Int64 × Int64 × (Nat → Int32) × (Nat → Int32) × (Nat → Int32) × (Nat → Int32)
  | 0 => s0
  | k + 1 => skNS I ko nh nl q W k (skN I ko nh nl q W s0 k)
theorem l_skN {S : Nat × (Nat → Int32)} {d n : Nat} {I : mI} {J : mJ} {R : mR} {ko nh nl : Nat} (hn : 122 ≤ n) (hR : m_fin R) (ho : I 95 23 = nI ko) (hk : ko < 7) (hh : I 95 24 = nI nh) (hnh : nh ≤ 6) (hl : I 95 25 = nI nl) (hnl : nl ≤ 10) (hW : WFk I ko) {P : Nat} (hP : 2 ^ nl = P) (hP2 : P ≤ 1024) (hnh1 : 1 ≤ nh) (hH : WFh (I 106) nl) {u : Int32} {q W : Nat} (hW2 : W ≤ 216) (hq : q ≤ 3)  {s0 : Int64 × Int64 × (Nat → Int32) × (Nat → Int32) × (Nat → Int32) × (Nat → Int32)} {Q : Option Value → mI → mJ → mR → Prop}  (hx : AW S (d + 8) YM_strike n n Q 103 [(9, .int (nI P)), (5, .long (skN I ko nh nl q W s0 P).1), (7, .long (skN I ko nh nl q W s0 P).2.1), (0, .ref 95), (2, .int (nI q)), (3, .int u), (4, .int (nI W))] [] (m_row (m_row (m_row (m_row I 119 ((skN I ko nh nl q W s0 P).2.2.1)) 107 ((skN I ko nh nl q W s0 P).2.2.2.1)) 108 ((skN I ko nh nl q W s0 P).2.2.2.2.1)) 109 ((skN I ko nh nl q W s0 P).2.2.2.2.2)) J R n) : ∀ m k, k + m = P → ∀ s : Int64 × Int64 × (Nat → Int32) × (Nat → Int32) × (Nat → Int32) × (Nat → Int32), skN I ko nh nl q W s0 k = s → AW S (d + 8) YM_strike n n Q 55 [(9, .int (nI k)), (5, .long s.1), (7, .long s.2.1), (0, .ref 95), (2, .int (nI q)), (3, .int u), (4, .int (nI W))] [] (m_row (m_row (m_row (m_row I 119 s.2.2.1) 107 s.2.2.2.1) 108 s.2.2.2.2.1) 109 s.2.2.2.2.2) J R n := by
  intro m
  induction m with
  | zero =>
    intro k hk9 s es
    rw [show k = P by omega] at es ⊢
    subst es
    refine a_iload 0 dM_strike_55 rfl ?_
    refine a_iconstN (a := 1) dM_strike_57 (by decide) ?_
    refine a_aload_n 3 dM_strike_58 rfl rfl ?_
    refine a_geti dM_strike_59 fl12_262 rfl ly_95 (by omega) ?_
    rw [show (m_row (m_row (m_row (m_row I 119 ((skN I ko nh nl q W s0 P).2.2.1)) 107 ((skN I ko nh nl q W s0 P).2.2.2.1)) 108 ((skN I ko nh nl q W s0 P).2.2.2.2.1)) 109 ((skN I ko nh nl q W s0 P).2.2.2.2.2)) 95 25 = (nI nl) from hl]
    refine a_ishl dM_strike_62 ?_
    rw [show ((nI 1) <<< ((nI nl) &&& 31)) = (nI P) from (shl_P hP hnl)]
    refine a_icmp_geN (tgt := 103) dM_strike_63 (by decide) (by omega) (by omega) (fun _ => ?_) (fun c => False.elim (by omega))
    exact hx
  | succ m ih =>
    intro k hk9 s es
    have o1 := onesN_le (nI k) 10
    refine a_iload 0 dM_strike_55 rfl ?_
    refine a_iconstN (a := 1) dM_strike_57 (by decide) ?_
    refine a_aload_n 3 dM_strike_58 rfl rfl ?_
    refine a_geti dM_strike_59 fl12_262 rfl ly_95 (by omega) ?_
    rw [show (m_row (m_row (m_row (m_row I 119 s.2.2.1) 107 s.2.2.2.1) 108 s.2.2.2.2.1) 109 s.2.2.2.2.2) 95 25 = (nI nl) from hl]
    refine a_ishl dM_strike_62 ?_
    rw [show ((nI 1) <<< ((nI nl) &&& 31)) = (nI P) from (shl_P hP hnl)]
    refine a_icmp_geN (tgt := 103) dM_strike_63 (by decide) (by omega) (by omega) (fun c => False.elim (by omega)) (fun _ => ?_)
    refine a_iload 0 dM_strike_66 rfl ?_
    refine a_callS (Q' := m_res (some (.int (nI (onesN (nI k) 10)))) (m_row (m_row (m_row (m_row I 119 s.2.2.1) 107 s.2.2.2.1) 108 s.2.2.2.2.1) 109 s.2.2.2.2.2) J R) (as := [.int (nI k)]) (st := []) dM_strike_68 ml12_369 rfl (Nat.le_of_ble_eq_true rfl) (Nat.le_of_ble_eq_true rfl) rfl (Nat.le_refl _) (Nat.le_refl _) c_M_ones (m_go ?_)
    show AW _ _ _ _ _ _ _ _ [.int (nI (onesN (nI k) 10))] _ _ _ _
    refine a_iload_n 4 dM_strike_71 rfl rfl ?_
    refine a_icmp_neN (tgt := 97) dM_strike_72 (by decide) (by omega) (by omega) (fun c72 => ?_) (fun c72 => ?_)
    · refine a_iincN (lv' := [(9, .int (nI (k + 1))), (5, .long s.1), (7, .long s.2.1), (0, .ref 95), (2, .int (nI q)), (3, .int u), (4, .int (nI W))]) (j := 0) dM_strike_97 rfl (by decide) rfl ?_
      refine a_goto (tgt := 55) dM_strike_100 (by decide) ?_
      have e' : skN I ko nh nl q W s0 (k + 1) = (s.1, s.2.1, s.2.2.1, s.2.2.2.1, s.2.2.2.2.1, s.2.2.2.2.2) := by
        show skNS I ko nh nl q W k (skN I ko nh nl q W s0 k) = _
        rw [es]
        unfold skNS
        rw [if_neg (show ¬ ((onesN (nI k) 10) = q) by omega)]
      exact ih (k + 1) (by omega) (s.1, s.2.1, s.2.2.1, s.2.2.2.1, s.2.2.2.2.1, s.2.2.2.2.2) e'
    · refine a_lload 2 dM_strike_75 rfl ?_
      refine a_iload 6 dM_strike_77 rfl ?_
      refine a_i2l dM_strike_79 ?_
      refine a_ladd dM_strike_80 ?_
      refine a_lstore (lv' := [(7, .long (s.2.1 + (Int32.toInt64 (nI W)))), (9, .int (nI k)), (5, .long s.1), (0, .ref 95), (2, .int (nI q)), (3, .int u), (4, .int (nI W))]) dM_strike_81 (by decide) rfl ?_
      refine a_lload 2 dM_strike_83 rfl ?_
      refine a_aload_n 3 dM_strike_85 rfl rfl ?_
      refine a_iload 1 dM_strike_86 rfl ?_
      refine a_iload 6 dM_strike_88 rfl ?_
      refine a_callV (Q' := m_res (some (.int (nI (fbB I ko nh nl (nI k) (0, s.2.2.1, s.2.2.2.1, s.2.2.2.2.1, s.2.2.2.2.2) W).1))) (m_row (m_row (m_row (m_row I 119 (fbB I ko nh nl (nI k) (0, s.2.2.1, s.2.2.2.1, s.2.2.2.2.1, s.2.2.2.2.2) W).2.1) 107 ((fbB I ko nh nl (nI k) (0, s.2.2.1, s.2.2.2.1, s.2.2.2.2.1, s.2.2.2.2.2) W).2.2.1)) 108 ((fbB I ko nh nl (nI k) (0, s.2.2.1, s.2.2.2.1, s.2.2.2.2.1, s.2.2.2.2.2) W).2.2.2.1)) 109 ((fbB I ko nh nl (nI k) (0, s.2.2.1, s.2.2.2.1, s.2.2.2.2.1, s.2.2.2.2.2) W).2.2.2.2)) J R) (as := [.int (nI k), .int (nI W)]) (st := [.long s.1]) dM_strike_90 ml12_488 rfl (Nat.le_of_ble_eq_true rfl) ly_95 rfl rfl (by decide) (by omega) (Nat.le_of_ble_eq_true rfl) rfl (Nat.le_refl _) (Nat.le_refl _) (c_M_fairBy hn hR ho hk hh hnh hl hnl hW hnh1 hH hW2) (m_go ?_)
      show AW _ _ _ _ _ _ _ _ [.int (nI (fbB I ko nh nl (nI k) (0, s.2.2.1, s.2.2.2.1, s.2.2.2.2.1, s.2.2.2.2.2) W).1), .long s.1] _ _ _ _
      refine a_i2l dM_strike_93 ?_
      refine a_ladd dM_strike_94 ?_
      refine a_lstore (lv' := [(5, .long (s.1 + (Int32.toInt64 (nI (fbB I ko nh nl (nI k) (0, s.2.2.1, s.2.2.2.1, s.2.2.2.2.1, s.2.2.2.2.2) W).1)))), (7, .long (s.2.1 + (Int32.toInt64 (nI W)))), (9, .int (nI k)), (0, .ref 95), (2, .int (nI q)), (3, .int u), (4, .int (nI W))]) dM_strike_95 (by decide) rfl ?_
      refine a_iincN (lv' := [(9, .int (nI (k + 1))), (5, .long (s.1 + (Int32.toInt64 (nI (fbB I ko nh nl (nI k) (0, s.2.2.1, s.2.2.2.1, s.2.2.2.2.1, s.2.2.2.2.2) W).1)))), (7, .long (s.2.1 + (Int32.toInt64 (nI W)))), (0, .ref 95), (2, .int (nI q)), (3, .int u), (4, .int (nI W))]) (j := 2) dM_strike_97 rfl (by decide) rfl ?_
      refine a_goto (tgt := 55) dM_strike_100 (by decide) ?_
      have e' : skN I ko nh nl q W s0 (k + 1) = ((s.1 + (Int32.toInt64 (nI (fbB I ko nh nl (nI k) (0, s.2.2.1, s.2.2.2.1, s.2.2.2.2.1, s.2.2.2.2.2) W).1))), (s.2.1 + (Int32.toInt64 (nI W))), (fbB I ko nh nl (nI k) (0, s.2.2.1, s.2.2.2.1, s.2.2.2.2.1, s.2.2.2.2.2) W).2.1, ((fbB I ko nh nl (nI k) (0, s.2.2.1, s.2.2.2.1, s.2.2.2.2.1, s.2.2.2.2.2) W).2.2.1), ((fbB I ko nh nl (nI k) (0, s.2.2.1, s.2.2.2.1, s.2.2.2.2.1, s.2.2.2.2.2) W).2.2.2.1), ((fbB I ko nh nl (nI k) (0, s.2.2.1, s.2.2.2.1, s.2.2.2.2.1, s.2.2.2.2.2) W).2.2.2.2)) := by
        show skNS I ko nh nl q W k (skN I ko nh nl q W s0 k) = _
        rw [es]
        unfold skNS
        rw [if_pos (show (onesN (nI k) 10) = q by omega)]
      exact ih (k + 1) (by omega) ((s.1 + (Int32.toInt64 (nI (fbB I ko nh nl (nI k) (0, s.2.2.1, s.2.2.2.1, s.2.2.2.2.1, s.2.2.2.2.2) W).1))), (s.2.1 + (Int32.toInt64 (nI W))), (fbB I ko nh nl (nI k) (0, s.2.2.1, s.2.2.2.1, s.2.2.2.2.1, s.2.2.2.2.2) W).2.1, ((fbB I ko nh nl (nI k) (0, s.2.2.1, s.2.2.2.1, s.2.2.2.2.1, s.2.2.2.2.2) W).2.2.1), ((fbB I ko nh nl (nI k) (0, s.2.2.1, s.2.2.2.1, s.2.2.2.2.1, s.2.2.2.2.2) W).2.2.2.1), ((fbB I ko nh nl (nI k) (0, s.2.2.1, s.2.2.2.1, s.2.2.2.2.1, s.2.2.2.2.2) W).2.2.2.2)) e'
theorem pw_N {x : Nat} : ∀ k, pwN (lN x) 1 k = lN (x ^ k) := by
  intro k
  induction k with
  | zero => rfl
  | succ k ih => rw [pwN_s, ih, lN_mul, Nat.pow_succ]
theorem pw_i {nh q : Nat} (h : nh ≤ 6) : Int64.toInt32 (pwN (Int32.toInt64 (nI nh)) 1 q) = nI (nh ^ q) := by
  rw [nI_l (by omega), pw_N, lN_i]
theorem pw_216 {nh q : Nat} (h1 : 1 ≤ nh) (h : nh ≤ 6) (hq : q ≤ 3) : nh ^ q ≤ 216 ∧ 1 ≤ nh ^ q := ⟨Nat.le_trans (Nat.pow_le_pow_left h q) (Nat.pow_le_pow_right (n := 6) (by decide) hq), Nat.pow_pos h1⟩
theorem skN_dn {I : mI} {ko nh nl q W : Nat} (hW : W < 2 ^ 31) {x : Int64} {f md ls cm : Nat → Int32} : ∀ k, (skN I ko nh nl q W (x, 0, f, md, ls, cm) k).2.1 = lN (cnN q k * W) := by
  intro k
  induction k with
  | zero => rw [show cnN q 0 = 0 from rfl, Nat.zero_mul]; rfl
  | succ k ih =>
    unfold skN skNS cnN
    by_cases h : onesN (nI k) 10 = q
    · rw [if_pos h, if_pos h]
      show (skN I ko nh nl q W (x, 0, f, md, ls, cm) k).2.1 + (nI W).toInt64 = _
      rw [ih, nI_l hW, lN_add, Nat.succ_mul]
    · rw [if_neg h, if_neg h]
      exact ih
theorem skN_le {I : mI} {ko nh nl q W : Nat} {s0 : Int64 × Int64 × (Nat → Int32) × (Nat → Int32) × (Nat → Int32) × (Nat → Int32)} : ∀ k, nA (skN I ko nh nl q W s0 k).1 ≤ nA s0.1 + k * 2 ^ 31 := by
  intro k
  induction k with
  | zero => unfold skN; omega
  | succ k ih =>
    unfold skN skNS
    split
    · refine Nat.le_trans (nA_add _ _) (Nat.le_trans (Nat.add_le_add ih (nA_i _)) ?_)
      rw [Nat.succ_mul]
      exact Nat.le_of_eq (Nat.add_assoc _ _ _)
    · exact Nat.le_trans ih (Nat.add_le_add_left (Nat.mul_le_mul_right _ (Nat.le_succ k)) _)
theorem G4_self {I : mI} : m_row (m_row (m_row (m_row I 119 (I 119)) 107 (I 107)) 108 (I 108)) 109 (I 109) = I := by
  rw [m_row_self, m_row_self, m_row_self, m_row_self]
abbrev skT (I : mI) (ko nh nl q : Nat) : Int64 × Int64 × (Nat → Int32) × (Nat → Int32) × (Nat → Int32) × (Nat → Int32) := skN I ko nh nl q (nh ^ q) (0, 0, I 119, I 107, I 108, I 109) (2 ^ nl)
def skR (I : mI) (ko nh nl q : Nat) (u : Int32) : Int64 := ptF (skT I ko nh nl q).1 (lN (cnN q (2 ^ nl) * nh ^ q)) u
theorem b_M_strike {S : Nat × (Nat → Int32)} {d n : Nat} {I : mI} {J : mJ} {R : mR} {ko nh nl : Nat} (hn : 122 ≤ n) (hR : m_fin R) (ho : I 95 23 = nI ko) (hk : ko < 7) (hh : I 95 24 = nI nh) (hnh : nh ≤ 6) (hl : I 95 25 = nI nl) (hnl : nl ≤ 10) (hW : WFk I ko) (hnh1 : 1 ≤ nh) (hH : WFh (I 106) nl) {q : Nat} (hq : q ≤ nl) (hq3 : q ≤ 3) {u : Int32}  {Q : Option Value → mI → mJ → mR → Prop} (hQ : ∀ f md ls cm, Q (some (.long (skR I ko nh nl q u))) (m_row (m_row (m_row (m_row I 119 f) 107 md) 108 ls) 109 cm) J R) : AW S (d + 8) YM_strike n n Q 34 [(0, .ref 95), (2, .int (nI q)), (3, .int u)] [] I J R n := by
  obtain ⟨P, hP⟩ : ∃ P, 2 ^ nl = P := ⟨_, rfl⟩
  have hP2 := P_le hP hnl
  have hc1 := cnN_P hP hq hnl
  have hc2 := cnN_le q P
  have hw0 := pw_216 hnh1 hnh hq3
  have hmul : cnN q P * nh ^ q ≤ 1024 * 216 := Nat.mul_le_mul (by omega) hw0.1
  refine a_aload_n 0 dM_strike_34 rfl rfl ?_
  refine a_geti dM_strike_35 fl12_259 rfl ly_95 (by omega) ?_
  rw [show I 95 24 = (nI nh) from hh]
  refine a_i2l dM_strike_38 ?_
  refine a_iload_n 1 dM_strike_39 rfl rfl ?_
  refine a_callS (Q' := m_res (some (.long (pwN (Int32.toInt64 (nI nh)) 1 q))) I J R) (as := [.long (Int32.toInt64 (nI nh)), .int (nI q)]) (st := []) dM_strike_40 ml12_395 rfl (Nat.le_of_ble_eq_true rfl) (Nat.le_of_ble_eq_true rfl) rfl (Nat.le_refl _) (Nat.le_refl _) (c_M_power (by omega)) (m_go ?_)
  show AW _ _ _ _ _ _ _ _ [.long (pwN (Int32.toInt64 (nI nh)) 1 q)] _ _ _ _
  refine a_l2i dM_strike_43 ?_
  rw [show (Int64.toInt32 (pwN (Int32.toInt64 (nI nh)) 1 q)) = (nI (nh ^ q)) from (pw_i hnh)]
  refine a_istore (lv' := [(4, .int (nI (nh ^ q))), (0, .ref 95), (2, .int (nI q)), (3, .int u)]) dM_strike_44 (by decide) rfl ?_
  refine a_lconst (v := 0) dM_strike_46 (by decide) ?_
  refine a_lstore (lv' := [(5, .long 0), (4, .int (nI (nh ^ q))), (0, .ref 95), (2, .int (nI q)), (3, .int u)]) dM_strike_47 (by decide) rfl ?_
  refine a_lconst (v := 0) dM_strike_49 (by decide) ?_
  refine a_lstore (lv' := [(7, .long 0), (5, .long 0), (4, .int (nI (nh ^ q))), (0, .ref 95), (2, .int (nI q)), (3, .int u)]) dM_strike_50 (by decide) rfl ?_
  refine a_iconstN (a := 0) dM_strike_52 (by decide) ?_
  refine a_istore (lv' := [(9, .int (nI 0)), (7, .long 0), (5, .long 0), (4, .int (nI (nh ^ q))), (0, .ref 95), (2, .int (nI q)), (3, .int u)]) dM_strike_53 (by decide) rfl ?_
  refine a_mem G4_self.symm ?_
  refine a_locs (lv' := [(9, .int (nI 0)), (5, .long 0), (7, .long 0), (0, .ref 95), (2, .int (nI q)), (3, .int u), (4, .int (nI (nh ^ q)))]) [0, 2, 1, 4, 5, 6, 3] rfl ?_
  refine l_skN (s0 := (0, 0, I 119, I 107, I 108, I 109)) hn hR ho hk hh hnh hl hnl hW hP hP2 hnh1 hH (u := u) (q := q) (W := nh ^ q) (pw_216 hnh1 hnh hq3).1 hq3 ?_ P 0 (by omega) _ rfl
  refine a_lload 1 dM_strike_103 rfl ?_
  refine a_lload 2 dM_strike_105 rfl ?_
  refine a_iload_n 5 dM_strike_107 rfl rfl ?_
  refine a_callS (Q' := m_res (some (.long (ptF ((skN I ko nh nl q (nh ^ q) (0, 0, I 119, I 107, I 108, I 109) P).1) (lN (cnN q P * nh ^ q)) u))) (m_row (m_row (m_row (m_row I 119 ((skN I ko nh nl q (nh ^ q) (0, 0, I 119, I 107, I 108, I 109) P).2.2.1)) 107 ((skN I ko nh nl q (nh ^ q) (0, 0, I 119, I 107, I 108, I 109) P).2.2.2.1)) 108 ((skN I ko nh nl q (nh ^ q) (0, 0, I 119, I 107, I 108, I 109) P).2.2.2.2.1)) 109 ((skN I ko nh nl q (nh ^ q) (0, 0, I 119, I 107, I 108, I 109) P).2.2.2.2.2)) J R) (as := [.long (skN I ko nh nl q (nh ^ q) (0, 0, I 119, I 107, I 108, I 109) P).1, .long (skN I ko nh nl q (nh ^ q) (0, 0, I 119, I 107, I 108, I 109) P).2.1, .int u]) (st := []) dM_strike_108 ml12_381 rfl (Nat.le_of_ble_eq_true rfl) (Nat.le_of_ble_eq_true rfl) rfl (Nat.le_refl _) (Nat.le_refl _) (by rw [skN_dn (by omega) P]; exact c_M_part (by rw [nA_lN (by omega)]; omega) (by have h1 := skN_le (I := I) (ko := ko) (nh := nh) (nl := nl) (q := q) (W := nh ^ q) (s0 := (0, 0, I 119, I 107, I 108, I 109)) P; have h2 : nA ((0, 0, I 119, I 107, I 108, I 109) : Int64 × Int64 × (Nat → Int32) × (Nat → Int32) × (Nat → Int32) × (Nat → Int32)).1 = 0 := rfl; omega) (by rw [nA_lN (by omega)]; exact Nat.mul_pos hc1 hw0.2)) (m_go ?_)
  show AW _ _ _ _ _ _ _ _ [.long (ptF ((skN I ko nh nl q (nh ^ q) (0, 0, I 119, I 107, I 108, I 109) P).1) (lN (cnN q P * nh ^ q)) u)] _ _ _ _
  exact a_lret dM_strike_111 rfl (by subst hP; exact hQ _ _ _ _)
