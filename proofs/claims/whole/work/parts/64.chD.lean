def scNS (I : mI) (o nl h p N t : Nat) (mo : Int32) (k : Nat) (s : Nat) : Nat := (if ((nI k) &&& ((nI t) ^^^ (-1))) = 0 then (if (bhO I o h ((nI t) &&& ((nI k) ^^^ (-1))) nl).1 < mo then s else (s + ((p ^ (onesN (nI k) 10)) * ((10 - p) ^ (N - (onesN (nI k) 10)))))) else s)
def scN (I : mI) (o nl h p N t : Nat) (mo : Int32) (s0 : Nat) : Nat → Nat
  | 0 => s0
  | k + 1 => scNS I o nl h p N t mo k (scN I o nl h p N t mo s0 k)
theorem l_scN {S : Nat × (Nat → Int32)} {d n : Nat} {I : mI} {J : mJ} {R : mR} (hn : 122 ≤ n) (hR : m_fin R) {o nh nl : Nat} (ho : o ∈ m_offs) (hr : offR R o) (hon : o + 8 < n) (hh : I o 0 = nI nh) (hnh : nh ≤ 6) (hl : I o 1 = nI nl) (hnl : nl ≤ 10) (hW : WFc I o nl) (hH : WFh (I (o + 2)) nl) {P : Nat} (hP : 2 ^ nl = P) (hP2 : P ≤ 1024) {h p N t : Nat} (hh6 : h < nh) (hp : p ≤ 10) {mo : Int32} {b1 : Int64} (ht : t < 1024) (hN : N = onesN (nI t) 10)  {s0 : Nat} {Q : Option Value → mI → mJ → mR → Prop}  (hx : AW S (d + 2) YChances_findSpared n n Q 112 [(7, .int (nI P)), (0, .ref 92), (1, .ref o), (2, .int (nI h)), (3, .int (nI p)), (4, .int mo), (5, .int (nI t)), (6, .int (nI N))] [] I (chJ J (lN (scN I o nl h p N t mo s0 P)) b1) R n) : ∀ m k, k + m = P → ∀ s : Nat, scN I o nl h p N t mo s0 k = s → AW S (d + 2) YChances_findSpared n n Q 33 [(7, .int (nI k)), (0, .ref 92), (1, .ref o), (2, .int (nI h)), (3, .int (nI p)), (4, .int mo), (5, .int (nI t)), (6, .int (nI N))] [] I (chJ J (lN s) b1) R n := by
  intro m
  induction m with
  | zero =>
    intro k hk9 s es
    rw [show k = P by omega] at es ⊢
    subst es
    refine a_iload 0 dChances_findSpared_33 rfl ?_
    refine a_iconstN (a := 1) dChances_findSpared_35 (by decide) ?_
    refine a_aload_n 2 dChances_findSpared_36 rfl rfl ?_
    refine a_geti dChances_findSpared_37 fl1_53 rfl (of_l0 ho) (by omega) ?_
    rw [show I o 1 = (nI nl) from hl]
    refine a_ishl dChances_findSpared_40 ?_
    rw [show ((nI 1) <<< ((nI nl) &&& 31)) = (nI P) from (shl_P hP hnl)]
    refine a_icmp_geN (tgt := 112) dChances_findSpared_41 (by decide) (by omega) (by omega) (fun _ => ?_) (fun c => False.elim (by omega))
    exact hx
  | succ m ih =>
    intro k hk9 s es
    have ok1 := onesN_le (nI k) 10
    have ok2 := onesN_le (nI t) 10
    refine a_iload 0 dChances_findSpared_33 rfl ?_
    refine a_iconstN (a := 1) dChances_findSpared_35 (by decide) ?_
    refine a_aload_n 2 dChances_findSpared_36 rfl rfl ?_
    refine a_geti dChances_findSpared_37 fl1_53 rfl (of_l0 ho) (by omega) ?_
    rw [show I o 1 = (nI nl) from hl]
    refine a_ishl dChances_findSpared_40 ?_
    rw [show ((nI 1) <<< ((nI nl) &&& 31)) = (nI P) from (shl_P hP hnl)]
    refine a_icmp_geN (tgt := 112) dChances_findSpared_41 (by decide) (by omega) (by omega) (fun c => False.elim (by omega)) (fun _ => ?_)
    refine a_iload 0 dChances_findSpared_44 rfl ?_
    refine a_iload 6 dChances_findSpared_46 rfl ?_
    refine a_iconst (v := -1) dChances_findSpared_48 (by decide) ?_
    refine a_ixor dChances_findSpared_49 ?_
    refine a_iand dChances_findSpared_50 ?_
    refine a_if_ne (tgt := 106) dChances_findSpared_51 (by decide) (fun c51 => ?_) (fun c51 => ?_)
    · refine a_iincN (lv' := [(7, .int (nI (k + 1))), (0, .ref 92), (1, .ref o), (2, .int (nI h)), (3, .int (nI p)), (4, .int mo), (5, .int (nI t)), (6, .int (nI N))]) (j := 0) dChances_findSpared_106 rfl (by decide) rfl ?_
      refine a_goto (tgt := 33) dChances_findSpared_109 (by decide) ?_
      have ez9 : scN I o nl h p N t mo s0 (k + 1) = s := by
        show scNS I o nl h p N t mo k (scN I o nl h p N t mo s0 k) = _
        rw [es]
        unfold scNS
        rw [if_neg c51]
      exact ih (k + 1) (by omega) s ez9
    · refine a_aload_n 2 dChances_findSpared_54 rfl rfl ?_
      refine a_iload_n 3 dChances_findSpared_55 rfl rfl ?_
      refine a_iload 6 dChances_findSpared_56 rfl ?_
      refine a_iload 0 dChances_findSpared_58 rfl ?_
      refine a_iconst (v := -1) dChances_findSpared_60 (by decide) ?_
      refine a_ixor dChances_findSpared_61 ?_
      refine a_iand dChances_findSpared_62 ?_
      refine a_callV (Q' := m_res (some (.int (bhO I o h ((nI t) &&& ((nI k) ^^^ (-1))) nl).1)) I (chJ J (lN s) b1) R) (as := [.int (nI h), .int ((nI t) &&& ((nI k) ^^^ (-1)))]) (st := []) dChances_findSpared_63 ml1_67 rfl (Nat.le_of_ble_eq_true rfl) (of_l0 ho) rfl rfl (by decide) (by omega) (Nat.le_of_ble_eq_true rfl) rfl (Nat.le_refl _) (Nat.le_refl _) (c_Office_moodBehind ho hr hon hl hnl (by omega) hW) (m_go ?_)
      show AW _ _ _ _ _ _ _ _ [.int (bhO I o h ((nI t) &&& ((nI k) ^^^ (-1))) nl).1] _ _ _ _
      refine a_iload 5 dChances_findSpared_66 rfl ?_
      refine a_icmp_lt (tgt := 106) dChances_findSpared_68 (by decide) (fun c68 => ?_) (fun c68 => ?_)
      · refine a_iincN (lv' := [(7, .int (nI (k + 1))), (0, .ref 92), (1, .ref o), (2, .int (nI h)), (3, .int (nI p)), (4, .int mo), (5, .int (nI t)), (6, .int (nI N))]) (j := 0) dChances_findSpared_106 rfl (by decide) rfl ?_
        refine a_goto (tgt := 33) dChances_findSpared_109 (by decide) ?_
        have ez9 : scN I o nl h p N t mo s0 (k + 1) = s := by
          show scNS I o nl h p N t mo k (scN I o nl h p N t mo s0 k) = _
          rw [es]
          unfold scNS
          rw [if_pos c51, if_pos c68]
        exact ih (k + 1) (by omega) s ez9
      · refine a_iload 0 dChances_findSpared_71 rfl ?_
        refine a_callS (Q' := m_res (some (.int (nI (onesN (nI k) 10)))) I (chJ J (lN s) b1) R) (as := [.int (nI k)]) (st := []) dChances_findSpared_73 ml1_41 rfl (Nat.le_of_ble_eq_true rfl) (Nat.le_of_ble_eq_true rfl) rfl (Nat.le_refl _) (Nat.le_refl _) (c_bitCountN (by omega)) (m_go ?_)
        show AW _ _ _ _ _ _ _ _ [.int (nI (onesN (nI k) 10))] _ _ _ _
        refine a_istore (lv' := [(8, .int (nI (onesN (nI k) 10))), (7, .int (nI k)), (0, .ref 92), (1, .ref o), (2, .int (nI h)), (3, .int (nI p)), (4, .int mo), (5, .int (nI t)), (6, .int (nI N))]) dChances_findSpared_76 (by decide) rfl ?_
        refine a_aload_n 2 dChances_findSpared_78 rfl rfl ?_
        refine a_dup dChances_findSpared_79 rfl ?_
        refine a_getl dChances_findSpared_80 fl1_18 rfl ly_92 (by omega) ?_
        rw [show (chJ J (lN s) b1) 92 0 = (lN s) from by rfl]
        refine a_iload_n 5 dChances_findSpared_83 rfl rfl ?_
        refine a_iload 0 dChances_findSpared_84 rfl ?_
        refine a_callS (Q' := m_res (some (.long (lN (p ^ (onesN (nI k) 10))))) I (chJ J (lN s) b1) R) (as := [.int (nI p), .int (nI (onesN (nI k) 10))]) (st := [.long (lN s), .ref 92]) dChances_findSpared_86 ml1_63 rfl (Nat.le_of_ble_eq_true rfl) (Nat.le_of_ble_eq_true rfl) rfl (Nat.le_refl _) (Nat.le_refl _) (c_powerN (by omega) (by omega)) (m_go ?_)
        show AW _ _ _ _ _ _ _ _ [.long (lN (p ^ (onesN (nI k) 10))), .long (lN s), .ref 92] _ _ _ _
        refine a_bipushN (a := 10) dChances_findSpared_89 (by decide) ?_
        refine a_iload_n 5 dChances_findSpared_91 rfl rfl ?_
        refine a_isubN dChances_findSpared_92 (by omega) ?_
        refine a_iload 8 dChances_findSpared_93 rfl ?_
        refine a_iload 0 dChances_findSpared_95 rfl ?_
        refine a_isubN dChances_findSpared_97 (by rw [hN]; exact ones_sub c51) ?_
        refine a_callS (Q' := m_res (some (.long (lN ((10 - p) ^ (N - (onesN (nI k) 10)))))) I (chJ J (lN s) b1) R) (as := [.int (nI (10 - p)), .int (nI (N - (onesN (nI k) 10)))]) (st := [.long (lN (p ^ (onesN (nI k) 10))), .long (lN s), .ref 92]) dChances_findSpared_98 ml1_63 rfl (Nat.le_of_ble_eq_true rfl) (Nat.le_of_ble_eq_true rfl) rfl (Nat.le_refl _) (Nat.le_refl _) (c_powerN (by omega) (by omega)) (m_go ?_)
        show AW _ _ _ _ _ _ _ _ [.long (lN ((10 - p) ^ (N - (onesN (nI k) 10)))), .long (lN (p ^ (onesN (nI k) 10))), .long (lN s), .ref 92] _ _ _ _
        refine a_lmul dChances_findSpared_101 ?_
        rw [show ((lN (p ^ (onesN (nI k) 10))) * (lN ((10 - p) ^ (N - (onesN (nI k) 10))))) = (lN ((p ^ (onesN (nI k) 10)) * ((10 - p) ^ (N - (onesN (nI k) 10))))) from (lN_mul _ _)]
        refine a_ladd dChances_findSpared_102 ?_
        rw [show ((lN s) + (lN ((p ^ (onesN (nI k) 10)) * ((10 - p) ^ (N - (onesN (nI k) 10)))))) = (lN (s + ((p ^ (onesN (nI k) 10)) * ((10 - p) ^ (N - (onesN (nI k) 10)))))) from (lN_add _ _)]
        refine a_putl dChances_findSpared_103 fl1_18 rfl ly_92 (by omega) ?_
        rw [chJ_a]
        refine a_iincN (lv' := [(7, .int (nI (k + 1))), (8, .int (nI (onesN (nI k) 10))), (0, .ref 92), (1, .ref o), (2, .int (nI h)), (3, .int (nI p)), (4, .int mo), (5, .int (nI t)), (6, .int (nI N))]) (j := 1) dChances_findSpared_106 rfl (by decide) rfl ?_
        refine a_goto (tgt := 33) dChances_findSpared_109 (by decide) ?_
        have ez9 : scN I o nl h p N t mo s0 (k + 1) = (s + ((p ^ (onesN (nI k) 10)) * ((10 - p) ^ (N - (onesN (nI k) 10))))) := by
          show scNS I o nl h p N t mo k (scN I o nl h p N t mo s0 k) = _
          rw [es]
          unfold scNS
          rw [if_pos c51, if_neg c68]
        refine a_locs (lv' := [(7, .int (nI (k + 1))), (0, .ref 92), (1, .ref o), (2, .int (nI h)), (3, .int (nI p)), (4, .int mo), (5, .int (nI t)), (6, .int (nI N))]) [0, 2, 3, 4, 5, 6, 7, 8] rfl ?_
        exact ih (k + 1) (by omega) (s + ((p ^ (onesN (nI k) 10)) * ((10 - p) ^ (N - (onesN (nI k) 10))))) ez9
abbrev spC (I : mI) (o nl h p : Nat) (mo : Int32) : Nat := scN I o nl h p (onesN (nI (ltC I o h nl)) 10) (ltC I o h nl) mo 0 (2 ^ nl)
theorem c_Chances_findSpared {S : Nat × (Nat → Int32)} {d n : Nat} {I : mI} {J : mJ} {R : mR} (hn : 122 ≤ n) (hR : m_fin R) {o nh nl : Nat} (ho : o ∈ m_offs) (hr : offR R o) (hon : o + 8 < n) (hh : I o 0 = nI nh) (hnh : nh ≤ 6) (hl : I o 1 = nI nl) (hnl : nl ≤ 10) (hW : WFc I o nl) (hH : WFh (I (o + 2)) nl) {h p : Nat} (hh6 : h < nh) (hp : p ≤ 10) {mo : Int32}  : RUN S (d + 2) YChances_findSpared [.ref 92, .ref o, .int (nI h), .int (nI p), .int mo] I J R n none I (chJ J (lN (spC I o nl h p mo)) (lN (10 ^ onesN (nI (ltC I o h nl)) 10))) R n := by
  show AW S _ YChances_findSpared n n _ 0 [(0, .ref 92), (1, .ref o), (2, .int (nI h)), (3, .int (nI p)), (4, .int mo)] [] I J R n
  have hlt := lt_lt (f := I (o + 2)) (h := nI h) (k := nl) hnl
  have ho10 := onesN_le (nI (ltN (I (o + 2)) (nI h) nl)) 10
  obtain ⟨P, hP⟩ : ∃ P, 2 ^ nl = P := ⟨_, rfl⟩
  have hP2 := P_le hP hnl
  refine a_aload_n 1 dChances_findSpared_0 rfl rfl ?_
  refine a_iload_n 2 dChances_findSpared_1 rfl rfl ?_
  refine a_callV (Q' := m_res (some (.int (nI (ltN (I (o + 2)) (nI h) nl)))) I J R) (as := [.int (nI h)]) (st := []) dChances_findSpared_2 ml1_35 rfl (Nat.le_of_ble_eq_true rfl) (of_l0 ho) rfl rfl (by decide) (by omega) (Nat.le_of_ble_eq_true rfl) rfl (Nat.le_refl _) (Nat.le_refl _) (by have h := c_Office_lettersOf (S := S) (d := d + 1) (n := n) (J := J) (R := R) (I := I) (h := (nI h)) ho hr hon hl hnl; rw [lt_nI] at h; exact h) (m_go ?_)
  show AW _ _ _ _ _ _ _ _ [.int (nI (ltN (I (o + 2)) (nI h) nl))] _ _ _ _
  refine a_istore (lv' := [(5, .int (nI (ltN (I (o + 2)) (nI h) nl))), (0, .ref 92), (1, .ref o), (2, .int (nI h)), (3, .int (nI p)), (4, .int mo)]) dChances_findSpared_5 (by decide) rfl ?_
  refine a_iload 0 dChances_findSpared_7 rfl ?_
  refine a_callS (Q' := m_res (some (.int (nI (onesN (nI (ltN (I (o + 2)) (nI h) nl)) 10)))) I J R) (as := [.int (nI (ltN (I (o + 2)) (nI h) nl))]) (st := []) dChances_findSpared_9 ml1_41 rfl (Nat.le_of_ble_eq_true rfl) (Nat.le_of_ble_eq_true rfl) rfl (Nat.le_refl _) (Nat.le_refl _) (c_bitCountN (by omega)) (m_go ?_)
  show AW _ _ _ _ _ _ _ _ [.int (nI (onesN (nI (ltN (I (o + 2)) (nI h) nl)) 10))] _ _ _ _
  refine a_istore (lv' := [(6, .int (nI (onesN (nI (ltN (I (o + 2)) (nI h) nl)) 10))), (5, .int (nI (ltN (I (o + 2)) (nI h) nl))), (0, .ref 92), (1, .ref o), (2, .int (nI h)), (3, .int (nI p)), (4, .int mo)]) dChances_findSpared_12 (by decide) rfl ?_
  refine a_aload_n 2 dChances_findSpared_14 rfl rfl ?_
  refine a_lconst (v := 0) dChances_findSpared_15 (by decide) ?_
  refine a_putl dChances_findSpared_16 fl1_18 rfl ly_92 (by omega) ?_
  rw [chJ_a0]
  refine a_aload_n 2 dChances_findSpared_19 rfl rfl ?_
  refine a_bipushN (a := 10) dChances_findSpared_20 (by decide) ?_
  refine a_iload 0 dChances_findSpared_22 rfl ?_
  refine a_callS (Q' := m_res (some (.long (lN (10 ^ (onesN (nI (ltN (I (o + 2)) (nI h) nl)) 10))))) I (chJ J 0 (J 92 1)) R) (as := [.int (nI 10), .int (nI (onesN (nI (ltN (I (o + 2)) (nI h) nl)) 10))]) (st := [.ref 92]) dChances_findSpared_24 ml1_63 rfl (Nat.le_of_ble_eq_true rfl) (Nat.le_of_ble_eq_true rfl) rfl (Nat.le_refl _) (Nat.le_refl _) (c_powerN (by omega) (by omega)) (m_go ?_)
  show AW _ _ _ _ _ _ _ _ [.long (lN (10 ^ (onesN (nI (ltN (I (o + 2)) (nI h) nl)) 10))), .ref 92] _ _ _ _
  refine a_putl dChances_findSpared_27 fl1_28 rfl ly_92 (by omega) ?_
  rw [chJ_b]
  refine a_iconstN (a := 0) dChances_findSpared_30 (by decide) ?_
  refine a_istore (lv' := [(7, .int (nI 0)), (6, .int (nI (onesN (nI (ltN (I (o + 2)) (nI h) nl)) 10))), (5, .int (nI (ltN (I (o + 2)) (nI h) nl))), (0, .ref 92), (1, .ref o), (2, .int (nI h)), (3, .int (nI p)), (4, .int mo)]) dChances_findSpared_31 (by decide) rfl ?_
  show AW _ _ _ _ _ _ _ _ _ _ (chJ J (lN 0) (lN (10 ^ onesN (nI (ltC I o h nl)) 10))) _ _
  refine a_locs (lv' := [(7, .int (nI 0)), (0, .ref 92), (1, .ref o), (2, .int (nI h)), (3, .int (nI p)), (4, .int mo), (5, .int (nI (ltN (I (o + 2)) (nI h) nl))), (6, .int (nI (onesN (nI (ltN (I (o + 2)) (nI h) nl)) 10)))]) [0, 3, 4, 5, 6, 7, 2, 1] rfl ?_
  refine l_scN (s0 := 0) hn hR ho hr hon hh hnh hl hnl hW hH hP hP2 (N := onesN (nI (ltN (I (o + 2)) (nI h) nl)) 10) (t := (ltN (I (o + 2)) (nI h) nl)) hh6 hp hlt rfl ?_ P 0 (by omega) _ rfl
  exact a_vret dChances_findSpared_112 rfl ⟨rfl, rfl, by unfold spC; rw [hP], rfl⟩
/-- all houses' moods when of the first k letters those of a set have come by numbers, and what came last to each -/
def mbN (ds : Nat → Int32 → Int32) (kd : Nat → Int32) (hm : Nat → Nat) (b0 : Int32) (s0 : Int32 × (Nat → Int32)) : Nat → Int32 × (Nat → Int32)
  | 0 => s0
  | k + 1 => if f_has b0 (nI k) = 0 then mbN ds kd hm b0 s0 k else ((mbN ds kd hm b0 s0 k).1 + ds k ((mbN ds kd hm b0 s0 k).2 (hm k)), va_up (mbN ds kd hm b0 s0 k).2 (hm k) (kd k))
theorem mbN_ok {ds : Nat → Int32 → Int32} {kd : Nat → Int32} {hm : Nat → Nat} {b0 : Int32} {s0 : Int32 × (Nat → Int32)} (h0 : ∀ h, h < 6 → kOK (s0.2 h)) : ∀ k, (∀ l, l < k → kOK (kd l)) → ∀ h, h < 6 → kOK ((mbN ds kd hm b0 s0 k).2 h) := by
  intro k
  induction k with
  | zero => intro _ h hh; exact h0 h hh
  | succ k ih =>
    intro hk h hh
    unfold mbN
    split
    · exact ih (fun l hl => hk l (by omega)) h hh
    · show kOK (va_up (mbN ds kd hm b0 s0 k).2 (hm k) (kd k) h)
      unfold va_up
      split
      · exact hk k (by omega)
      · exact ih (fun l hl => hk l (by omega)) h hh
def mbAS (I : mI) (o : Nat) (k : Nat) (s : Int32) : Int32 := (s + (I (o + 1) k))
def mbA (I : mI) (o : Nat) (s0 : Int32) : Nat → Int32
  | 0 => s0
  | k + 1 => mbAS I o k (mbA I o s0 k)
theorem l_mbA {S : Nat × (Nat → Int32)} {d n : Nat} {I : mI} {J : mJ} {R : mR} (hn : 122 ≤ n) (hR : m_fin R) {o nh nl : Nat} (ho : o ∈ m_offs) (hr : offR R o) (hon : o + 8 < n) (hh : I o 0 = nI nh) (hnh : nh ≤ 6) (hl : I o 1 = nI nl) (hnl : nl ≤ 10) (hW : WFc I o nl) (hH : WFh (I (o + 2)) nl) {b0 : Int32} {f : Nat → Int32}  {s0 : Int32} {Q : Option Value → mI → mJ → mR → Prop}  (hx : AW S (d + 1) YChances_moodsBehind n n Q 38 [(4, .int (nI nh)), (3, .int (mbA I o s0 nh)), (0, .ref 92), (1, .ref o), (2, .int b0)] [] (m_row I 94 f) J R n) : ∀ m k, k + m = nh → ∀ s : Int32, mbA I o s0 k = s → AW S (d + 1) YChances_moodsBehind n n Q 13 [(4, .int (nI k)), (3, .int s), (0, .ref 92), (1, .ref o), (2, .int b0)] [] (m_row I 94 f) J R n := by
  intro m
  induction m with
  | zero =>
    intro k hk9 s es
    rw [show k = nh by omega] at es ⊢
    subst es
    refine a_iload 0 dChances_moodsBehind_13 rfl ?_
    refine a_aload_n 3 dChances_moodsBehind_15 rfl rfl ?_
    refine a_geti dChances_moodsBehind_16 fl1_80 rfl (of_l0 ho) (by omega) ?_
    rw [show (m_row I 94 f) o 0 = (nI nh) from ((show (m_row I 94 f) o 0 = I o 0 by rw [m_row_ne (oc_ne0 ho (by decide))]).trans hh)]
    refine a_icmp_geN (tgt := 38) dChances_moodsBehind_19 (by decide) (by omega) (by omega) (fun _ => ?_) (fun c => False.elim (by omega))
    exact hx
  | succ m ih =>
    intro k hk9 s es
    refine a_iload 0 dChances_moodsBehind_13 rfl ?_
    refine a_aload_n 3 dChances_moodsBehind_15 rfl rfl ?_
    refine a_geti dChances_moodsBehind_16 fl1_80 rfl (of_l0 ho) (by omega) ?_
    rw [show (m_row I 94 f) o 0 = (nI nh) from ((show (m_row I 94 f) o 0 = I o 0 by rw [m_row_ne (oc_ne0 ho (by decide))]).trans hh)]
    refine a_icmp_geN (tgt := 38) dChances_moodsBehind_19 (by decide) (by omega) (by omega) (fun c => False.elim (by omega)) (fun _ => ?_)
    refine a_iload_n 1 dChances_moodsBehind_22 rfl rfl ?_
    refine a_aload_n 3 dChances_moodsBehind_23 rfl rfl ?_
    refine a_geta (r := (o + 1)) dChances_moodsBehind_24 fl1_50 rfl (of_l0 ho) (by omega) (hr 0 (by decide)) ?_
    refine a_iload 0 dChances_moodsBehind_27 rfl ?_
    refine a_ialdN (a := k) dChances_moodsBehind_29 (of_l1 ho) (by omega) (by omega) (by decide) ?_
    rw [show (m_row I 94 f) (o + 1) k = I (o + 1) k from (by rw [m_row_ne (oc_ne ho (by decide) (by decide))])]
    refine a_iadd dChances_moodsBehind_30 ?_
    refine a_istore_n (lv' := [(3, .int (s + (I (o + 1) k))), (4, .int (nI k)), (0, .ref 92), (1, .ref o), (2, .int b0)]) dChances_moodsBehind_31 rfl (by decide) rfl ?_
    refine a_iincN (lv' := [(4, .int (nI (k + 1))), (3, .int (s + (I (o + 1) k))), (0, .ref 92), (1, .ref o), (2, .int b0)]) (j := 1) dChances_moodsBehind_32 rfl (by decide) rfl ?_
    refine a_goto (tgt := 13) dChances_moodsBehind_35 (by decide) ?_
    have ez9 : mbA I o s0 (k + 1) = (s + (I (o + 1) k)) := by
      show mbAS I o k (mbA I o s0 k) = _
      rw [es]
      unfold mbAS
      rfl
    exact ih (k + 1) (by omega) (s + (I (o + 1) k)) ez9
theorem l_mbL {S : Nat × (Nat → Int32)} {d n : Nat} {I : mI} {J : mJ} {R : mR} (hn : 122 ≤ n) (hR : m_fin R) {o nh nl : Nat} (ho : o ∈ m_offs) (hr : offR R o) (hon : o + 8 < n) (hh : I o 0 = nI nh) (hnh : nh ≤ 6) (hl : I o 1 = nI nl) (hnl : nl ≤ 10) (hW : WFc I o nl) (hH : WFh (I (o + 2)) nl) {b0 : Int32} {s0 : Int32 × (Nat → Int32)}   {Q : Option Value → mI → mJ → mR → Prop} (hI : ∀ h, h < 6 → kOK (s0.2 h)) (hx : AW S (d + 1) YChances_moodsBehind n n Q 105 [(4, .int (nI nl)), (3, .int (mbN (dsO I o) (I (o + 3)) (hmN (I (o + 2))) b0 s0 nl).1), (0, .ref 92), (1, .ref o), (2, .int b0)] [] (m_row I 94 ((mbN (dsO I o) (I (o + 3)) (hmN (I (o + 2))) b0 s0 nl).2)) J R n) : ∀ m k, k + m = nl → ∀ s : Int32 × (Nat → Int32), mbN (dsO I o) (I (o + 3)) (hmN (I (o + 2))) b0 s0 k = s → AW S (d + 1) YChances_moodsBehind n n Q 41 [(4, .int (nI k)), (3, .int s.1), (0, .ref 92), (1, .ref o), (2, .int b0)] [] (m_row I 94 s.2) J R n := by
  intro m
  induction m with
  | zero =>
    intro k hk9 s es
    rw [show k = nl by omega] at es ⊢
    subst es
    refine a_iload 0 dChances_moodsBehind_41 rfl ?_
    refine a_aload_n 3 dChances_moodsBehind_43 rfl rfl ?_
    refine a_geti dChances_moodsBehind_44 fl1_53 rfl (of_l0 ho) (by omega) ?_
    rw [show (m_row I 94 ((mbN (dsO I o) (I (o + 3)) (hmN (I (o + 2))) b0 s0 nl).2)) o 1 = (nI nl) from ((show (m_row I 94 ((mbN (dsO I o) (I (o + 3)) (hmN (I (o + 2))) b0 s0 nl).2)) o 1 = I o 1 by rw [m_row_ne (oc_ne0 ho (by decide))]).trans hl)]
    refine a_icmp_geN (tgt := 105) dChances_moodsBehind_47 (by decide) (by omega) (by omega) (fun _ => ?_) (fun c => False.elim (by omega))
    exact hx
  | succ m ih =>
    intro k hk9 s es
    have hq := mbN_ok (ds := dsO I o) (kd := I (o + 3)) (hm := hmN (I (o + 2))) (b0 := b0) (s0 := s0) hI k (fun l hl => hW.kok (by omega)) (hmN (I (o + 2)) k) (hH.hm (by omega)).2
    rw [es] at hq
    refine a_iload 0 dChances_moodsBehind_41 rfl ?_
    refine a_aload_n 3 dChances_moodsBehind_43 rfl rfl ?_
    refine a_geti dChances_moodsBehind_44 fl1_53 rfl (of_l0 ho) (by omega) ?_
    rw [show (m_row I 94 s.2) o 1 = (nI nl) from ((show (m_row I 94 s.2) o 1 = I o 1 by rw [m_row_ne (oc_ne0 ho (by decide))]).trans hl)]
    refine a_icmp_geN (tgt := 105) dChances_moodsBehind_47 (by decide) (by omega) (by omega) (fun c => False.elim (by omega)) (fun _ => ?_)
    by_cases hs : f_has b0 (nI k) = 0
    · refine a_iload_n 4 dChances_moodsBehind_50 rfl rfl ?_
      refine a_iload 0 dChances_moodsBehind_51 rfl ?_
      refine a_ishr dChances_moodsBehind_53 ?_
      refine a_iconstN (a := 1) dChances_moodsBehind_54 (by decide) ?_
      refine a_iand dChances_moodsBehind_55 ?_
      refine a_iconstN (a := 1) dChances_moodsBehind_56 (by decide) ?_
      refine a_icmp_ne (tgt := 99) dChances_moodsBehind_57 (by decide) (fun _ => ?_) (fun c => False.elim (has_1 c hs))
      refine a_iincN (lv' := [(4, .int (nI (k + 1))), (3, .int s.1), (0, .ref 92), (1, .ref o), (2, .int b0)]) (j := 0) dChances_moodsBehind_99 rfl (by decide) rfl ?_
      refine a_goto (tgt := 41) dChances_moodsBehind_102 (by decide) ?_
      have ez9 : mbN (dsO I o) (I (o + 3)) (hmN (I (o + 2))) b0 s0 (k + 1) = (s.1, s.2) := by
        unfold mbN
        rw [es]
        rw [if_pos hs]
      exact ih (k + 1) (by omega) (s.1, s.2) ez9
    · refine a_iload_n 4 dChances_moodsBehind_50 rfl rfl ?_
      refine a_iload 0 dChances_moodsBehind_51 rfl ?_
      refine a_ishr dChances_moodsBehind_53 ?_
      refine a_iconstN (a := 1) dChances_moodsBehind_54 (by decide) ?_
      refine a_iand dChances_moodsBehind_55 ?_
      refine a_iconstN (a := 1) dChances_moodsBehind_56 (by decide) ?_
      refine a_icmp_ne (tgt := 99) dChances_moodsBehind_57 (by decide) (fun c => False.elim (hs (has_0 c))) (fun _ => ?_)
      refine a_aload_n 3 dChances_moodsBehind_60 rfl rfl ?_
      refine a_geta (r := (o + 2)) dChances_moodsBehind_61 fl1_83 rfl (of_l0 ho) (by omega) (hr 1 (by decide)) ?_
      refine a_iload 0 dChances_moodsBehind_64 rfl ?_
      refine a_ialdN (a := k) dChances_moodsBehind_66 (of_l2 ho) (by omega) (by omega) (by decide) ?_
      rw [show (m_row I 94 s.2) (o + 2) k = I (o + 2) k from (by rw [m_row_ne (oc_ne ho (by decide) (by decide))])]
      rw [show (I (o + 2) k) = (nI (hmN (I (o + 2)) k)) from (hH.hm (by omega)).1]
      refine a_istore (lv' := [(5, .int (nI (hmN (I (o + 2)) k))), (4, .int (nI k)), (3, .int s.1), (0, .ref 92), (1, .ref o), (2, .int b0)]) dChances_moodsBehind_67 (by decide) rfl ?_
      refine a_iload_n 2 dChances_moodsBehind_69 rfl rfl ?_
      refine a_aload_n 4 dChances_moodsBehind_70 rfl rfl ?_
      refine a_iload 1 dChances_moodsBehind_71 rfl ?_
      refine a_aload_n 3 dChances_moodsBehind_73 rfl rfl ?_
      refine a_geta (r := 94) dChances_moodsBehind_74 fl1_15 rfl ly_92 (by omega) (rf_92_4 hR) ?_
      refine a_iload 0 dChances_moodsBehind_77 rfl ?_
      refine a_ialdN (a := (hmN (I (o + 2)) k)) dChances_moodsBehind_79 ly_94 (by omega) (by have := (hH.hm (l := k) (by omega)).2; omega) (by decide) ?_
      rw [show (m_row I 94 s.2) 94 (hmN (I (o + 2)) k) = s.2 (hmN (I (o + 2)) k) from rfl]
      refine a_callV (Q' := m_res (some (.int (dsO I o k (s.2 (hmN (I (o + 2)) k))))) (m_row I 94 s.2) J R) (as := [.int (nI k), .int (s.2 (hmN (I (o + 2)) k))]) (st := [.int s.1]) dChances_moodsBehind_80 ml1_60 rfl (Nat.le_of_ble_eq_true rfl) (of_l0 ho) rfl rfl (by decide) (by omega) (Nat.le_of_ble_eq_true rfl) rfl (Nat.le_refl _) (Nat.le_refl _) (by obtain ⟨q9, hq9, e9⟩ := hW k (by omega); have h := c_Office_does (S := S) (d := d) (n := n) (J := J) (R := R) (I := (m_row I 94 s.2)) ho hr hon (l := k) (q := q9) (x := (s.2 (hmN (I (o + 2)) k))) (by omega) (by rw [off_row ho (by decide) (by decide)]; exact e9) hq9 hq; rw [dsO_row ho (by decide)] at h; exact h) (m_go ?_)
      show AW _ _ _ _ _ _ _ _ [.int (dsO I o k (s.2 (hmN (I (o + 2)) k))), .int s.1] _ _ _ _
      refine a_iadd dChances_moodsBehind_83 ?_
      refine a_istore_n (lv' := [(3, .int (s.1 + (dsO I o k (s.2 (hmN (I (o + 2)) k))))), (5, .int (nI (hmN (I (o + 2)) k))), (4, .int (nI k)), (0, .ref 92), (1, .ref o), (2, .int b0)]) dChances_moodsBehind_84 rfl (by decide) rfl ?_
      refine a_aload_n 3 dChances_moodsBehind_85 rfl rfl ?_
      refine a_geta (r := 94) dChances_moodsBehind_86 fl1_15 rfl ly_92 (by omega) (rf_92_4 hR) ?_
      refine a_iload 1 dChances_moodsBehind_89 rfl ?_
      refine a_aload_n 4 dChances_moodsBehind_91 rfl rfl ?_
      refine a_geta (r := (o + 3)) dChances_moodsBehind_92 fl1_57 rfl (of_l0 ho) (by omega) (hr 2 (by decide)) ?_
      refine a_iload 2 dChances_moodsBehind_95 rfl ?_
      refine a_ialdN (a := k) dChances_moodsBehind_97 (of_l3 ho) (by omega) (by omega) (by decide) ?_
      rw [show (m_row I 94 s.2) (o + 3) k = I (o + 3) k from (by rw [m_row_ne (oc_ne ho (by decide) (by decide))])]
      refine a_iastN (a := (hmN (I (o + 2)) k)) dChances_moodsBehind_98 ly_94 (by omega) (by have := (hH.hm (l := k) (by omega)).2; omega) (by decide) ?_
      rw [show m_up (m_row I 94 s.2) 94 (hmN (I (o + 2)) k) (I (o + 3) k) = (m_row I 94 (va_up s.2 (hmN (I (o + 2)) k) (I (o + 3) k))) from (by rw [m_up_r])]
      refine a_iincN (lv' := [(4, .int (nI (k + 1))), (3, .int (s.1 + (dsO I o k (s.2 (hmN (I (o + 2)) k))))), (5, .int (nI (hmN (I (o + 2)) k))), (0, .ref 92), (1, .ref o), (2, .int b0)]) (j := 2) dChances_moodsBehind_99 rfl (by decide) rfl ?_
      refine a_goto (tgt := 41) dChances_moodsBehind_102 (by decide) ?_
      have ez9 : mbN (dsO I o) (I (o + 3)) (hmN (I (o + 2))) b0 s0 (k + 1) = ((s.1 + (dsO I o k (s.2 (hmN (I (o + 2)) k)))), (va_up s.2 (hmN (I (o + 2)) k) (I (o + 3) k))) := by
        unfold mbN
        rw [es]
        rw [if_neg hs]
      refine a_locs (lv' := [(4, .int (nI (k + 1))), (3, .int (s.1 + (dsO I o k (s.2 (hmN (I (o + 2)) k))))), (0, .ref 92), (1, .ref o), (2, .int b0)]) [0, 1, 3, 4, 5] rfl ?_
      exact ih (k + 1) (by omega) ((s.1 + (dsO I o k (s.2 (hmN (I (o + 2)) k)))), (va_up s.2 (hmN (I (o + 2)) k) (I (o + 3) k))) ez9
abbrev mbT (I : mI) (o nh nl : Nat) (b0 : Int32) (f : Nat → Int32) : Int32 × (Nat → Int32) := mbN (dsO I o) (I (o + 3)) (hmN (I (o + 2))) b0 (mbA I o (nI 0) nh, m_fill (fun _ => -1) f 6) nl
theorem fill_ok {f : Nat → Int32} : ∀ h, h < 6 → kOK (m_fill (fun _ => (-1 : Int32)) f 6 h) := by
  intro h hh
  unfold m_fill
  rw [if_pos hh]
  exact Or.inl rfl
theorem c_moodsBehind {S : Nat × (Nat → Int32)} {d n : Nat} {I : mI} {J : mJ} {R : mR} (hn : 122 ≤ n) (hR : m_fin R) {o nh nl : Nat} (ho : o ∈ m_offs) (hr : offR R o) (hon : o + 8 < n) (hh : I o 0 = nI nh) (hnh : nh ≤ 6) (hl : I o 1 = nI nl) (hnl : nl ≤ 10) (hW : WFc I o nl) (hH : WFh (I (o + 2)) nl) {b0 : Int32} {f : Nat → Int32} : RUN S (d + 1) YChances_moodsBehind [.ref 92, .ref o, .int b0] (m_row I 94 f) J R n (some (.int (mbT I o nh nl b0 f).1)) (m_row I 94 (mbT I o nh nl b0 f).2) J R n := by
  show AW S _ YChances_moodsBehind n n _ 0 [(0, .ref 92), (1, .ref o), (2, .int b0)] [] (m_row I 94 f) J R n
  refine a_aload_n 0 dChances_moodsBehind_0 rfl rfl ?_
  refine a_geta (r := 94) dChances_moodsBehind_1 fl1_15 rfl ly_92 (by omega) (rf_92_4 hR) ?_
  refine a_iconst (v := -1) dChances_moodsBehind_4 (by decide) ?_
  refine a_callS (Q' := m_res none (m_row I 94 (m_fill (fun _ => (-1)) f 6)) J R) (as := [.ref 94, .int (-1)]) (st := []) dChances_moodsBehind_5 ml1_74 rfl (Nat.le_of_ble_eq_true rfl) (Nat.le_of_ble_eq_true rfl) rfl (Nat.le_refl _) (Nat.le_refl _) (by have h := c_Arrays_fill (S := S) (d := d) (n := n) (J := J) (R := R) (I := (m_row I 94 f)) (a := 94) (N := 6) (x := (-1)) ly_94 (by omega) (by decide); rw [m_row_row] at h; exact h) (m_go ?_)
  show AW _ _ _ _ _ _ _ _ [] _ _ _ _
  refine a_iconstN (a := 0) dChances_moodsBehind_8 (by decide) ?_
  refine a_istore_n (lv' := [(3, .int (nI 0)), (0, .ref 92), (1, .ref o), (2, .int b0)]) dChances_moodsBehind_9 rfl (by decide) rfl ?_
  refine a_iconstN (a := 0) dChances_moodsBehind_10 (by decide) ?_
  refine a_istore (lv' := [(4, .int (nI 0)), (3, .int (nI 0)), (0, .ref 92), (1, .ref o), (2, .int b0)]) dChances_moodsBehind_11 (by decide) rfl ?_
  refine l_mbA (s0 := (nI 0)) hn hR ho hr hon hh hnh hl hnl hW hH (b0 := b0) (f := (m_fill (fun _ => (-1)) f 6)) ?_ nh 0 (by omega) _ rfl
  refine a_iconstN (a := 0) dChances_moodsBehind_38 (by decide) ?_
  refine a_istore (lv' := [(4, .int (nI 0)), (3, .int (mbA I o (nI 0) nh)), (0, .ref 92), (1, .ref o), (2, .int b0)]) dChances_moodsBehind_39 (by decide) rfl ?_
  refine l_mbL  hn hR ho hr hon hh hnh hl hnl hW hH (b0 := b0) (s0 := (mbA I o (nI 0) nh, m_fill (fun _ => -1) f 6)) fill_ok ?_ nl 0 (by omega) _ rfl
  refine a_iload_n 1 dChances_moodsBehind_105 rfl rfl ?_
  exact a_iret dChances_moodsBehind_106 rfl ⟨rfl, rfl, rfl, rfl⟩
def hcNS (I : mI) (o nh nl q : Nat) (k : Nat) (s : Int64 × Nat × (Nat → Int32)) : Int64 × Nat × (Nat → Int32) := (if (onesN (nI k) 10) = q then ((s.1 + (Int32.toInt64 ((mbT I o nh nl (nI k) s.2.2).1))), (s.2.1 + 1), (mbT I o nh nl (nI k) s.2.2).2) else (s.1, s.2.1, s.2.2))
def hcN (I : mI) (o nh nl q : Nat) (s0 : Int64 × Nat × (Nat → Int32)) : Nat → Int64 × Nat × (Nat → Int32)
  | 0 => s0
  | k + 1 => hcNS I o nh nl q k (hcN I o nh nl q s0 k)
theorem l_hcN {S : Nat × (Nat → Int32)} {d n : Nat} {I : mI} {J : mJ} {R : mR} (hn : 122 ≤ n) (hR : m_fin R) {o nh nl : Nat} (ho : o ∈ m_offs) (hr : offR R o) (hon : o + 8 < n) (hh : I o 0 = nI nh) (hnh : nh ≤ 6) (hl : I o 1 = nI nl) (hnl : nl ≤ 10) (hW : WFc I o nl) (hH : WFh (I (o + 2)) nl) {P : Nat} (hP : 2 ^ nl = P) (hP2 : P ≤ 1024) {q : Nat} (hq : q ≤ nl)  {s0 : Int64 × Nat × (Nat → Int32)} {Q : Option Value → mI → mJ → mR → Prop}  (hx : AW S (d + 2) YChances_findHoped n n Q 62 [(3, .int (nI P)), (0, .ref 92), (1, .ref o), (2, .int (nI q))] [] (m_row I 94 ((hcN I o nh nl q s0 P).2.2)) (chJ J ((hcN I o nh nl q s0 P).1) (lN (hcN I o nh nl q s0 P).2.1)) R n) : ∀ m k, k + m = P → ∀ s : Int64 × Nat × (Nat → Int32), hcN I o nh nl q s0 k = s → AW S (d + 2) YChances_findHoped n n Q 12 [(3, .int (nI k)), (0, .ref 92), (1, .ref o), (2, .int (nI q))] [] (m_row I 94 s.2.2) (chJ J s.1 (lN s.2.1)) R n := by
  intro m
  induction m with
  | zero =>
    intro k hk9 s es
    rw [show k = P by omega] at es ⊢
    subst es
    refine a_iload_n 0 dChances_findHoped_12 rfl rfl ?_
    refine a_iconstN (a := 1) dChances_findHoped_13 (by decide) ?_
    refine a_aload_n 2 dChances_findHoped_14 rfl rfl ?_
    refine a_geti dChances_findHoped_15 fl1_53 rfl (of_l0 ho) (by omega) ?_
    rw [show (m_row I 94 ((hcN I o nh nl q s0 P).2.2)) o 1 = (nI nl) from ((show (m_row I 94 ((hcN I o nh nl q s0 P).2.2)) o 1 = I o 1 by rw [m_row_ne (oc_ne0 ho (by decide))]).trans hl)]
    refine a_ishl dChances_findHoped_18 ?_
    rw [show ((nI 1) <<< ((nI nl) &&& 31)) = (nI P) from (shl_P hP hnl)]
    refine a_icmp_geN (tgt := 62) dChances_findHoped_19 (by decide) (by omega) (by omega) (fun _ => ?_) (fun c => False.elim (by omega))
    exact hx
  | succ m ih =>
    intro k hk9 s es
    have ok1 := onesN_le (nI k) 10
    refine a_iload_n 0 dChances_findHoped_12 rfl rfl ?_
    refine a_iconstN (a := 1) dChances_findHoped_13 (by decide) ?_
    refine a_aload_n 2 dChances_findHoped_14 rfl rfl ?_
    refine a_geti dChances_findHoped_15 fl1_53 rfl (of_l0 ho) (by omega) ?_
    rw [show (m_row I 94 s.2.2) o 1 = (nI nl) from ((show (m_row I 94 s.2.2) o 1 = I o 1 by rw [m_row_ne (oc_ne0 ho (by decide))]).trans hl)]
    refine a_ishl dChances_findHoped_18 ?_
    rw [show ((nI 1) <<< ((nI nl) &&& 31)) = (nI P) from (shl_P hP hnl)]
    refine a_icmp_geN (tgt := 62) dChances_findHoped_19 (by decide) (by omega) (by omega) (fun c => False.elim (by omega)) (fun _ => ?_)
    refine a_iload_n 0 dChances_findHoped_22 rfl rfl ?_
    refine a_callS (Q' := m_res (some (.int (nI (onesN (nI k) 10)))) (m_row I 94 s.2.2) (chJ J s.1 (lN s.2.1)) R) (as := [.int (nI k)]) (st := []) dChances_findHoped_23 ml1_41 rfl (Nat.le_of_ble_eq_true rfl) (Nat.le_of_ble_eq_true rfl) rfl (Nat.le_refl _) (Nat.le_refl _) (c_bitCountN (by omega)) (m_go ?_)
    show AW _ _ _ _ _ _ _ _ [.int (nI (onesN (nI k) 10))] _ _ _ _
    refine a_iload_n 3 dChances_findHoped_26 rfl rfl ?_
    refine a_icmp_neN (tgt := 56) dChances_findHoped_27 (by decide) (by omega) (by omega) (fun c27 => ?_) (fun c27 => ?_)
    · refine a_iincN (lv' := [(3, .int (nI (k + 1))), (0, .ref 92), (1, .ref o), (2, .int (nI q))]) (j := 0) dChances_findHoped_56 rfl (by decide) rfl ?_
      refine a_goto (tgt := 12) dChances_findHoped_59 (by decide) ?_
      have ez9 : hcN I o nh nl q s0 (k + 1) = (s.1, s.2.1, s.2.2) := by
        show hcNS I o nh nl q k (hcN I o nh nl q s0 k) = _
        rw [es]
        unfold hcNS
        rw [if_neg (show ¬ ((onesN (nI k) 10) = q) by omega)]
      exact ih (k + 1) (by omega) (s.1, s.2.1, s.2.2) ez9
    · refine a_aload_n 1 dChances_findHoped_30 rfl rfl ?_
      refine a_dup dChances_findHoped_31 rfl ?_
      refine a_getl dChances_findHoped_32 fl1_18 rfl ly_92 (by omega) ?_
      rw [show (chJ J s.1 (lN s.2.1)) 92 0 = s.1 from by rfl]
      refine a_aload_n 1 dChances_findHoped_35 rfl rfl ?_
      refine a_aload_n 2 dChances_findHoped_36 rfl rfl ?_
      refine a_iload_n 0 dChances_findHoped_37 rfl rfl ?_
      refine a_callV (Q' := m_res (some (.int (mbT I o nh nl (nI k) s.2.2).1)) (m_row I 94 (mbT I o nh nl (nI k) s.2.2).2) (chJ J s.1 (lN s.2.1)) R) (as := [.ref o, .int (nI k)]) (st := [.long s.1, .ref 92]) dChances_findHoped_38 ml1_70 rfl (Nat.le_of_ble_eq_true rfl) ly_92 rfl rfl (by decide) (by omega) (Nat.le_of_ble_eq_true rfl) rfl (Nat.le_refl _) (Nat.le_refl _) (c_moodsBehind hn hR ho hr hon hh hnh hl hnl hW hH) (m_go ?_)
      show AW _ _ _ _ _ _ _ _ [.int (mbT I o nh nl (nI k) s.2.2).1, .long s.1, .ref 92] _ _ _ _
      refine a_i2l dChances_findHoped_41 ?_
      refine a_ladd dChances_findHoped_42 ?_
      refine a_putl dChances_findHoped_43 fl1_18 rfl ly_92 (by omega) ?_
      rw [chJ_a]
      refine a_aload_n 1 dChances_findHoped_46 rfl rfl ?_
      refine a_dup dChances_findHoped_47 rfl ?_
      refine a_getl dChances_findHoped_48 fl1_28 rfl ly_92 (by omega) ?_
      rw [show (chJ J (s.1 + (Int32.toInt64 ((mbT I o nh nl (nI k) s.2.2).1))) (lN s.2.1)) 92 1 = (lN s.2.1) from by rfl]
      refine a_lconst (v := 1) dChances_findHoped_51 (by decide) ?_
      refine a_ladd dChances_findHoped_52 ?_
      rw [show ((lN s.2.1) + 1) = (lN (s.2.1 + 1)) from (lN_1 _)]
      refine a_putl dChances_findHoped_53 fl1_28 rfl ly_92 (by omega) ?_
      rw [chJ_b]
      refine a_iincN (lv' := [(3, .int (nI (k + 1))), (0, .ref 92), (1, .ref o), (2, .int (nI q))]) (j := 0) dChances_findHoped_56 rfl (by decide) rfl ?_
      refine a_goto (tgt := 12) dChances_findHoped_59 (by decide) ?_
      have ez9 : hcN I o nh nl q s0 (k + 1) = ((s.1 + (Int32.toInt64 ((mbT I o nh nl (nI k) s.2.2).1))), (s.2.1 + 1), (mbT I o nh nl (nI k) s.2.2).2) := by
        show hcNS I o nh nl q k (hcN I o nh nl q s0 k) = _
        rw [es]
        unfold hcNS
        rw [if_pos (show (onesN (nI k) 10) = q by omega)]
      exact ih (k + 1) (by omega) ((s.1 + (Int32.toInt64 ((mbT I o nh nl (nI k) s.2.2).1))), (s.2.1 + 1), (mbT I o nh nl (nI k) s.2.2).2) ez9
abbrev hoC (I : mI) (o nh nl q : Nat) : Int64 × Nat × (Nat → Int32) := hcN I o nh nl q (0, 0, I 94) (2 ^ nl)
theorem M94_self {I : mI} : m_row I 94 (I 94) = I := m_row_self
theorem c_Chances_findHoped {S : Nat × (Nat → Int32)} {d n : Nat} {I : mI} {J : mJ} {R : mR} (hn : 122 ≤ n) (hR : m_fin R) {o nh nl : Nat} (ho : o ∈ m_offs) (hr : offR R o) (hon : o + 8 < n) (hh : I o 0 = nI nh) (hnh : nh ≤ 6) (hl : I o 1 = nI nl) (hnl : nl ≤ 10) (hW : WFc I o nl) (hH : WFh (I (o + 2)) nl) {q : Nat} (hq : q ≤ nl)  : RUN S (d + 2) YChances_findHoped [.ref 92, .ref o, .int (nI q)] I J R n none (m_row I 94 (hoC I o nh nl q).2.2) (chJ J ((hoC I o nh nl q).1) (lN (hoC I o nh nl q).2.1)) R n := by
  show AW S _ YChances_findHoped n n _ 0 [(0, .ref 92), (1, .ref o), (2, .int (nI q))] [] I J R n
  obtain ⟨P, hP⟩ : ∃ P, 2 ^ nl = P := ⟨_, rfl⟩
  have hP2 := P_le hP hnl
  refine a_aload_n 0 dChances_findHoped_0 rfl rfl ?_
  refine a_lconst (v := 0) dChances_findHoped_1 (by decide) ?_
  refine a_putl dChances_findHoped_2 fl1_18 rfl ly_92 (by omega) ?_
  rw [chJ_a0]
  refine a_aload_n 0 dChances_findHoped_5 rfl rfl ?_
  refine a_lconst (v := 0) dChances_findHoped_6 (by decide) ?_
  refine a_putl dChances_findHoped_7 fl1_28 rfl ly_92 (by omega) ?_
  rw [chJ_b]
  refine a_iconstN (a := 0) dChances_findHoped_10 (by decide) ?_
  refine a_istore_n (lv' := [(3, .int (nI 0)), (0, .ref 92), (1, .ref o), (2, .int (nI q))]) dChances_findHoped_11 rfl (by decide) rfl ?_
  refine a_mem M94_self.symm ?_
  show AW _ _ _ _ _ _ _ _ _ _ (chJ J 0 (lN 0)) _ _
  refine l_hcN (s0 := (0, 0, I 94)) hn hR ho hr hon hh hnh hl hnl hW hH hP hP2 hq ?_ P 0 (by omega) _ rfl
  exact a_vret dChances_findHoped_62 rfl ⟨rfl, by unfold hoC; rw [hP], by unfold hoC; rw [hP], rfl⟩
def ccNS (I : mI) (o nl h : Nat) (b0 mo : Int32) (k : Nat) (s : Int32) : Int32 := (if s = (-1) then (if ((nI k) &&& (b0 ^^^ (-1))) = 0 then (if (bhO I o h (b0 &&& ((nI k) ^^^ (-1))) nl).2.2 < mo then s else (nI k)) else s) else (if (bcF s) ≤ (bcF (nI k)) then s else (if ((nI k) &&& (b0 ^^^ (-1))) = 0 then (if (bhO I o h (b0 &&& ((nI k) ^^^ (-1))) nl).2.2 < mo then s else (nI k)) else s)))
def ccN (I : mI) (o nl h : Nat) (b0 mo : Int32) (s0 : Int32) : Nat → Int32
  | 0 => s0
  | k + 1 => ccNS I o nl h b0 mo k (ccN I o nl h b0 mo s0 k)
theorem l_ccN {S : Nat × (Nat → Int32)} {d n : Nat} {I : mI} {J : mJ} {R : mR} (hn : 122 ≤ n) (hR : m_fin R) {o nh nl : Nat} (ho : o ∈ m_offs) (hr : offR R o) (hon : o + 8 < n) (hh : I o 0 = nI nh) (hnh : nh ≤ 6) (hl : I o 1 = nI nl) (hnl : nl ≤ 10) (hW : WFc I o nl) (hH : WFh (I (o + 2)) nl) {P : Nat} (hP : 2 ^ nl = P) (hP2 : P ≤ 1024) {h : Nat} (hh6 : h < nh) {b0 mo : Int32}  {s0 : Int32} {Q : Option Value → mI → mJ → mR → Prop}  (hx : AW S (d + 2) YOffice_calmedBy n n Q 88 [(5, .int (nI P)), (4, .int (ccN I o nl h b0 mo s0 P)), (0, .ref o), (1, .int (nI h)), (2, .int mo), (3, .int b0)] [] I J R n) : ∀ m k, k + m = P → ∀ s : Int32, ccN I o nl h b0 mo s0 k = s → AW S (d + 2) YOffice_calmedBy n n Q 12 [(5, .int (nI k)), (4, .int s), (0, .ref o), (1, .int (nI h)), (2, .int mo), (3, .int b0)] [] I J R n := by
  intro m
  induction m with
  | zero =>
    intro k hk9 s es
    rw [show k = P by omega] at es ⊢
    subst es
    refine a_iload 0 dOffice_calmedBy_12 rfl ?_
    refine a_iconstN (a := 1) dOffice_calmedBy_14 (by decide) ?_
    refine a_aload_n 2 dOffice_calmedBy_15 rfl rfl ?_
    refine a_geti dOffice_calmedBy_16 fl4_40 rfl (of_l0 ho) (by omega) ?_
    rw [show I o 1 = (nI nl) from hl]
    refine a_ishl dOffice_calmedBy_19 ?_
    rw [show ((nI 1) <<< ((nI nl) &&& 31)) = (nI P) from (shl_P hP hnl)]
    refine a_icmp_geN (tgt := 88) dOffice_calmedBy_20 (by decide) (by omega) (by omega) (fun _ => ?_) (fun c => False.elim (by omega))
    exact hx
  | succ m ih =>
    intro k hk9 s es
    refine a_iload 0 dOffice_calmedBy_12 rfl ?_
    refine a_iconstN (a := 1) dOffice_calmedBy_14 (by decide) ?_
    refine a_aload_n 2 dOffice_calmedBy_15 rfl rfl ?_
    refine a_geti dOffice_calmedBy_16 fl4_40 rfl (of_l0 ho) (by omega) ?_
    rw [show I o 1 = (nI nl) from hl]
    refine a_ishl dOffice_calmedBy_19 ?_
    rw [show ((nI 1) <<< ((nI nl) &&& 31)) = (nI P) from (shl_P hP hnl)]
    refine a_icmp_geN (tgt := 88) dOffice_calmedBy_20 (by decide) (by omega) (by omega) (fun c => False.elim (by omega)) (fun _ => ?_)
    refine a_iload 1 dOffice_calmedBy_23 rfl ?_
    refine a_iconst (v := -1) dOffice_calmedBy_25 (by decide) ?_
    refine a_icmp_eq (tgt := 42) dOffice_calmedBy_26 (by decide) (fun c26 => ?_) (fun c26 => ?_)
    · refine a_iconstN (a := 1) dOffice_calmedBy_42 (by decide) ?_
      refine a_goto (tgt := 47) dOffice_calmedBy_43 (by decide) ?_
      refine a_istore (lv' := [(6, .int (nI 1)), (5, .int (nI k)), (4, .int s), (0, .ref o), (1, .int (nI h)), (2, .int mo), (3, .int b0)]) dOffice_calmedBy_47 (by decide) rfl ?_
      refine a_iload 1 dOffice_calmedBy_49 rfl ?_
      refine a_iload_n 6 dOffice_calmedBy_51 rfl rfl ?_
      refine a_iconst (v := -1) dOffice_calmedBy_52 (by decide) ?_
      refine a_ixor dOffice_calmedBy_53 ?_
      refine a_iand dOffice_calmedBy_54 ?_
      refine a_if_ne (tgt := 82) dOffice_calmedBy_55 (by decide) (fun c55 => ?_) (fun c55 => ?_)
      · refine a_iincN (lv' := [(5, .int (nI (k + 1))), (6, .int (nI 1)), (4, .int s), (0, .ref o), (1, .int (nI h)), (2, .int mo), (3, .int b0)]) (j := 1) dOffice_calmedBy_82 rfl (by decide) rfl ?_
        refine a_goto (tgt := 12) dOffice_calmedBy_85 (by decide) ?_
        have ez9 : ccN I o nl h b0 mo s0 (k + 1) = s := by
          show ccNS I o nl h b0 mo k (ccN I o nl h b0 mo s0 k) = _
          rw [es]
          unfold ccNS
          rw [if_pos c26, if_neg c55]
        refine a_locs (lv' := [(5, .int (nI (k + 1))), (4, .int s), (0, .ref o), (1, .int (nI h)), (2, .int mo), (3, .int b0)]) [0, 2, 3, 4, 5, 6] rfl ?_
        exact ih (k + 1) (by omega) s ez9
      · refine a_iload 0 dOffice_calmedBy_58 rfl ?_
        refine a_if_eq (tgt := 82) dOffice_calmedBy_60 (by decide) (fun c => False.elim (absurd c (by decide))) (fun _ => ?_)
        refine a_aload_n 3 dOffice_calmedBy_63 rfl rfl ?_
        refine a_iload_n 4 dOffice_calmedBy_64 rfl rfl ?_
        refine a_iload_n 6 dOffice_calmedBy_65 rfl rfl ?_
        refine a_iload 1 dOffice_calmedBy_66 rfl ?_
        refine a_iconst (v := -1) dOffice_calmedBy_68 (by decide) ?_
        refine a_ixor dOffice_calmedBy_69 ?_
        refine a_iand dOffice_calmedBy_70 ?_
        refine a_callV (Q' := m_res (some (.int (bhO I o h (b0 &&& ((nI k) ^^^ (-1))) nl).2.2)) I J R) (as := [.int (nI h), .int (b0 &&& ((nI k) ^^^ (-1)))]) (st := []) dOffice_calmedBy_71 ml4_92 rfl (Nat.le_of_ble_eq_true rfl) (of_l0 ho) rfl rfl (by decide) (by omega) (Nat.le_of_ble_eq_true rfl) rfl (Nat.le_refl _) (Nat.le_refl _) (c_Office_lowestUntil ho hr hon hl hnl (by omega) hW) (m_go ?_)
        show AW _ _ _ _ _ _ _ _ [.int (bhO I o h (b0 &&& ((nI k) ^^^ (-1))) nl).2.2] _ _ _ _
        refine a_iload_n 5 dOffice_calmedBy_74 rfl rfl ?_
        refine a_icmp_lt (tgt := 82) dOffice_calmedBy_75 (by decide) (fun c75 => ?_) (fun c75 => ?_)
        · refine a_iincN (lv' := [(5, .int (nI (k + 1))), (6, .int (nI 1)), (4, .int s), (0, .ref o), (1, .int (nI h)), (2, .int mo), (3, .int b0)]) (j := 1) dOffice_calmedBy_82 rfl (by decide) rfl ?_
          refine a_goto (tgt := 12) dOffice_calmedBy_85 (by decide) ?_
          have ez9 : ccN I o nl h b0 mo s0 (k + 1) = s := by
            show ccNS I o nl h b0 mo k (ccN I o nl h b0 mo s0 k) = _
            rw [es]
            unfold ccNS
            rw [if_pos c26, if_pos c55, if_pos c75]
          refine a_locs (lv' := [(5, .int (nI (k + 1))), (4, .int s), (0, .ref o), (1, .int (nI h)), (2, .int mo), (3, .int b0)]) [0, 2, 3, 4, 5, 6] rfl ?_
          exact ih (k + 1) (by omega) s ez9
        · refine a_iload 1 dOffice_calmedBy_78 rfl ?_
          refine a_istore (lv' := [(4, .int (nI k)), (6, .int (nI 1)), (5, .int (nI k)), (0, .ref o), (1, .int (nI h)), (2, .int mo), (3, .int b0)]) dOffice_calmedBy_80 (by decide) rfl ?_
          refine a_iincN (lv' := [(5, .int (nI (k + 1))), (4, .int (nI k)), (6, .int (nI 1)), (0, .ref o), (1, .int (nI h)), (2, .int mo), (3, .int b0)]) (j := 2) dOffice_calmedBy_82 rfl (by decide) rfl ?_
          refine a_goto (tgt := 12) dOffice_calmedBy_85 (by decide) ?_
          have ez9 : ccN I o nl h b0 mo s0 (k + 1) = (nI k) := by
            show ccNS I o nl h b0 mo k (ccN I o nl h b0 mo s0 k) = _
            rw [es]
            unfold ccNS
            rw [if_pos c26, if_pos c55, if_neg c75]
          refine a_locs (lv' := [(5, .int (nI (k + 1))), (4, .int (nI k)), (0, .ref o), (1, .int (nI h)), (2, .int mo), (3, .int b0)]) [0, 1, 3, 4, 5, 6] rfl ?_
          exact ih (k + 1) (by omega) (nI k) ez9
    · refine a_iload 0 dOffice_calmedBy_29 rfl ?_
      refine a_callS (Q' := m_res (some (.int (bcF (nI k)))) I J R) (as := [.int (nI k)]) (st := []) dOffice_calmedBy_31 ml4_87 rfl (Nat.le_of_ble_eq_true rfl) (Nat.le_of_ble_eq_true rfl) rfl (Nat.le_refl _) (Nat.le_refl _) c_Integer_bitCount (m_go ?_)
      show AW _ _ _ _ _ _ _ _ [.int (bcF (nI k))] _ _ _ _
      refine a_iload 1 dOffice_calmedBy_34 rfl ?_
      refine a_callS (Q' := m_res (some (.int (bcF s))) I J R) (as := [.int s]) (st := [.int (bcF (nI k))]) dOffice_calmedBy_36 ml4_87 rfl (Nat.le_of_ble_eq_true rfl) (Nat.le_of_ble_eq_true rfl) rfl (Nat.le_refl _) (Nat.le_refl _) c_Integer_bitCount (m_go ?_)
      show AW _ _ _ _ _ _ _ _ [.int (bcF s), .int (bcF (nI k))] _ _ _ _
      refine a_icmp_ge (tgt := 46) dOffice_calmedBy_39 (by decide) (fun c39 => ?_) (fun c39 => ?_)
      · refine a_iconstN (a := 0) dOffice_calmedBy_46 (by decide) ?_
        refine a_istore (lv' := [(6, .int (nI 0)), (5, .int (nI k)), (4, .int s), (0, .ref o), (1, .int (nI h)), (2, .int mo), (3, .int b0)]) dOffice_calmedBy_47 (by decide) rfl ?_
        refine a_iload 1 dOffice_calmedBy_49 rfl ?_
        refine a_iload_n 6 dOffice_calmedBy_51 rfl rfl ?_
        refine a_iconst (v := -1) dOffice_calmedBy_52 (by decide) ?_
        refine a_ixor dOffice_calmedBy_53 ?_
        refine a_iand dOffice_calmedBy_54 ?_
        refine a_if_ne (tgt := 82) dOffice_calmedBy_55 (by decide) (fun c55 => ?_) (fun c55 => ?_)
        · refine a_iincN (lv' := [(5, .int (nI (k + 1))), (6, .int (nI 0)), (4, .int s), (0, .ref o), (1, .int (nI h)), (2, .int mo), (3, .int b0)]) (j := 1) dOffice_calmedBy_82 rfl (by decide) rfl ?_
          refine a_goto (tgt := 12) dOffice_calmedBy_85 (by decide) ?_
          have ez9 : ccN I o nl h b0 mo s0 (k + 1) = s := by
            show ccNS I o nl h b0 mo k (ccN I o nl h b0 mo s0 k) = _
            rw [es]
            unfold ccNS
            rw [if_neg c26, if_pos c39]
          refine a_locs (lv' := [(5, .int (nI (k + 1))), (4, .int s), (0, .ref o), (1, .int (nI h)), (2, .int mo), (3, .int b0)]) [0, 2, 3, 4, 5, 6] rfl ?_
          exact ih (k + 1) (by omega) s ez9
        · refine a_iload 0 dOffice_calmedBy_58 rfl ?_
          refine a_if_eq (tgt := 82) dOffice_calmedBy_60 (by decide) (fun _ => ?_) (fun c => False.elim (c rfl))
          refine a_iincN (lv' := [(5, .int (nI (k + 1))), (6, .int (nI 0)), (4, .int s), (0, .ref o), (1, .int (nI h)), (2, .int mo), (3, .int b0)]) (j := 1) dOffice_calmedBy_82 rfl (by decide) rfl ?_
          refine a_goto (tgt := 12) dOffice_calmedBy_85 (by decide) ?_
          have ez9 : ccN I o nl h b0 mo s0 (k + 1) = s := by
            show ccNS I o nl h b0 mo k (ccN I o nl h b0 mo s0 k) = _
            rw [es]
            unfold ccNS
            rw [if_neg c26, if_pos c39]
          refine a_locs (lv' := [(5, .int (nI (k + 1))), (4, .int s), (0, .ref o), (1, .int (nI h)), (2, .int mo), (3, .int b0)]) [0, 2, 3, 4, 5, 6] rfl ?_
          exact ih (k + 1) (by omega) s ez9
      · refine a_iconstN (a := 1) dOffice_calmedBy_42 (by decide) ?_
        refine a_goto (tgt := 47) dOffice_calmedBy_43 (by decide) ?_
        refine a_istore (lv' := [(6, .int (nI 1)), (5, .int (nI k)), (4, .int s), (0, .ref o), (1, .int (nI h)), (2, .int mo), (3, .int b0)]) dOffice_calmedBy_47 (by decide) rfl ?_
        refine a_iload 1 dOffice_calmedBy_49 rfl ?_
        refine a_iload_n 6 dOffice_calmedBy_51 rfl rfl ?_
        refine a_iconst (v := -1) dOffice_calmedBy_52 (by decide) ?_
        refine a_ixor dOffice_calmedBy_53 ?_
        refine a_iand dOffice_calmedBy_54 ?_
        refine a_if_ne (tgt := 82) dOffice_calmedBy_55 (by decide) (fun c55 => ?_) (fun c55 => ?_)
        · refine a_iincN (lv' := [(5, .int (nI (k + 1))), (6, .int (nI 1)), (4, .int s), (0, .ref o), (1, .int (nI h)), (2, .int mo), (3, .int b0)]) (j := 1) dOffice_calmedBy_82 rfl (by decide) rfl ?_
          refine a_goto (tgt := 12) dOffice_calmedBy_85 (by decide) ?_
          have ez9 : ccN I o nl h b0 mo s0 (k + 1) = s := by
            show ccNS I o nl h b0 mo k (ccN I o nl h b0 mo s0 k) = _
            rw [es]
            unfold ccNS
            rw [if_neg c26, if_neg c39, if_neg c55]
          refine a_locs (lv' := [(5, .int (nI (k + 1))), (4, .int s), (0, .ref o), (1, .int (nI h)), (2, .int mo), (3, .int b0)]) [0, 2, 3, 4, 5, 6] rfl ?_
          exact ih (k + 1) (by omega) s ez9
        · refine a_iload 0 dOffice_calmedBy_58 rfl ?_
          refine a_if_eq (tgt := 82) dOffice_calmedBy_60 (by decide) (fun c => False.elim (absurd c (by decide))) (fun _ => ?_)
          refine a_aload_n 3 dOffice_calmedBy_63 rfl rfl ?_
          refine a_iload_n 4 dOffice_calmedBy_64 rfl rfl ?_
          refine a_iload_n 6 dOffice_calmedBy_65 rfl rfl ?_
          refine a_iload 1 dOffice_calmedBy_66 rfl ?_
          refine a_iconst (v := -1) dOffice_calmedBy_68 (by decide) ?_
          refine a_ixor dOffice_calmedBy_69 ?_
          refine a_iand dOffice_calmedBy_70 ?_
          refine a_callV (Q' := m_res (some (.int (bhO I o h (b0 &&& ((nI k) ^^^ (-1))) nl).2.2)) I J R) (as := [.int (nI h), .int (b0 &&& ((nI k) ^^^ (-1)))]) (st := []) dOffice_calmedBy_71 ml4_92 rfl (Nat.le_of_ble_eq_true rfl) (of_l0 ho) rfl rfl (by decide) (by omega) (Nat.le_of_ble_eq_true rfl) rfl (Nat.le_refl _) (Nat.le_refl _) (c_Office_lowestUntil ho hr hon hl hnl (by omega) hW) (m_go ?_)
          show AW _ _ _ _ _ _ _ _ [.int (bhO I o h (b0 &&& ((nI k) ^^^ (-1))) nl).2.2] _ _ _ _
          refine a_iload_n 5 dOffice_calmedBy_74 rfl rfl ?_
          refine a_icmp_lt (tgt := 82) dOffice_calmedBy_75 (by decide) (fun c75 => ?_) (fun c75 => ?_)
          · refine a_iincN (lv' := [(5, .int (nI (k + 1))), (6, .int (nI 1)), (4, .int s), (0, .ref o), (1, .int (nI h)), (2, .int mo), (3, .int b0)]) (j := 1) dOffice_calmedBy_82 rfl (by decide) rfl ?_
            refine a_goto (tgt := 12) dOffice_calmedBy_85 (by decide) ?_
            have ez9 : ccN I o nl h b0 mo s0 (k + 1) = s := by
              show ccNS I o nl h b0 mo k (ccN I o nl h b0 mo s0 k) = _
              rw [es]
              unfold ccNS
              rw [if_neg c26, if_neg c39, if_pos c55, if_pos c75]
            refine a_locs (lv' := [(5, .int (nI (k + 1))), (4, .int s), (0, .ref o), (1, .int (nI h)), (2, .int mo), (3, .int b0)]) [0, 2, 3, 4, 5, 6] rfl ?_
            exact ih (k + 1) (by omega) s ez9
          · refine a_iload 1 dOffice_calmedBy_78 rfl ?_
            refine a_istore (lv' := [(4, .int (nI k)), (6, .int (nI 1)), (5, .int (nI k)), (0, .ref o), (1, .int (nI h)), (2, .int mo), (3, .int b0)]) dOffice_calmedBy_80 (by decide) rfl ?_
            refine a_iincN (lv' := [(5, .int (nI (k + 1))), (4, .int (nI k)), (6, .int (nI 1)), (0, .ref o), (1, .int (nI h)), (2, .int mo), (3, .int b0)]) (j := 2) dOffice_calmedBy_82 rfl (by decide) rfl ?_
            refine a_goto (tgt := 12) dOffice_calmedBy_85 (by decide) ?_
            have ez9 : ccN I o nl h b0 mo s0 (k + 1) = (nI k) := by
              show ccNS I o nl h b0 mo k (ccN I o nl h b0 mo s0 k) = _
              rw [es]
              unfold ccNS
              rw [if_neg c26, if_neg c39, if_pos c55, if_neg c75]
            refine a_locs (lv' := [(5, .int (nI (k + 1))), (4, .int (nI k)), (0, .ref o), (1, .int (nI h)), (2, .int mo), (3, .int b0)]) [0, 1, 3, 4, 5, 6] rfl ?_
            exact ih (k + 1) (by omega) (nI k) ez9
abbrev caC (I : mI) (o nl h : Nat) (mo : Int32) : Int32 := ccN I o nl h (nI (ltC I o h nl)) mo (-1) (2 ^ nl)
theorem c_Office_calmedBy {S : Nat × (Nat → Int32)} {d n : Nat} {I : mI} {J : mJ} {R : mR} (hn : 122 ≤ n) (hR : m_fin R) {o nh nl : Nat} (ho : o ∈ m_offs) (hr : offR R o) (hon : o + 8 < n) (hh : I o 0 = nI nh) (hnh : nh ≤ 6) (hl : I o 1 = nI nl) (hnl : nl ≤ 10) (hW : WFc I o nl) (hH : WFh (I (o + 2)) nl) {h : Nat} (hh6 : h < nh) {mo : Int32}  : RUN S (d + 2) YOffice_calmedBy [.ref o, .int (nI h), .int mo] I J R n (some (.int (caC I o nl h mo))) I J R n := by
  show AW S _ YOffice_calmedBy n n _ 0 [(0, .ref o), (1, .int (nI h)), (2, .int mo)] [] I J R n
  obtain ⟨P, hP⟩ : ∃ P, 2 ^ nl = P := ⟨_, rfl⟩
  have hP2 := P_le hP hnl
  refine a_aload_n 0 dOffice_calmedBy_0 rfl rfl ?_
  refine a_iload_n 1 dOffice_calmedBy_1 rfl rfl ?_
  refine a_callV (Q' := m_res (some (.int (nI (ltN (I (o + 2)) (nI h) nl)))) I J R) (as := [.int (nI h)]) (st := []) dOffice_calmedBy_2 ml4_84 rfl (Nat.le_of_ble_eq_true rfl) (of_l0 ho) rfl rfl (by decide) (by omega) (Nat.le_of_ble_eq_true rfl) rfl (Nat.le_refl _) (Nat.le_refl _) (by have h := c_Office_lettersOf (S := S) (d := d + 1) (n := n) (J := J) (R := R) (I := I) (h := (nI h)) ho hr hon hl hnl; rw [lt_nI] at h; exact h) (m_go ?_)
  show AW _ _ _ _ _ _ _ _ [.int (nI (ltN (I (o + 2)) (nI h) nl))] _ _ _ _
  refine a_istore_n (lv' := [(3, .int (nI (ltN (I (o + 2)) (nI h) nl))), (0, .ref o), (1, .int (nI h)), (2, .int mo)]) dOffice_calmedBy_5 rfl (by decide) rfl ?_
  refine a_iconst (v := -1) dOffice_calmedBy_6 (by decide) ?_
  refine a_istore (lv' := [(4, .int (-1)), (3, .int (nI (ltN (I (o + 2)) (nI h) nl))), (0, .ref o), (1, .int (nI h)), (2, .int mo)]) dOffice_calmedBy_7 (by decide) rfl ?_
  refine a_iconstN (a := 0) dOffice_calmedBy_9 (by decide) ?_
  refine a_istore (lv' := [(5, .int (nI 0)), (4, .int (-1)), (3, .int (nI (ltN (I (o + 2)) (nI h) nl))), (0, .ref o), (1, .int (nI h)), (2, .int mo)]) dOffice_calmedBy_10 (by decide) rfl ?_
  refine a_locs (lv' := [(5, .int (nI 0)), (4, .int (-1)), (0, .ref o), (1, .int (nI h)), (2, .int mo), (3, .int (nI (ltN (I (o + 2)) (nI h) nl)))]) [0, 1, 3, 4, 5, 2] rfl ?_
  refine l_ccN (s0 := (-1)) hn hR ho hr hon hh hnh hl hnl hW hH hP hP2 hh6 (b0 := (nI (ltN (I (o + 2)) (nI h) nl))) ?_ P 0 (by omega) _ rfl
  refine a_iload 1 dOffice_calmedBy_88 rfl ?_
  exact a_iret dOffice_calmedBy_90 rfl ⟨by unfold caC; rw [hP], rfl, rfl, rfl⟩
theorem kdC {I : mI} {o nl l : Nat} (h : WFc I o nl) (hl : l < nl) : I (o + 3) l = nI (hmN (I (o + 3)) l) ∧ hmN (I (o + 3)) l < 4 := by
  obtain ⟨q, hq, e⟩ := h l hl
  unfold hmN
  rw [e, nI_clamp (by omega)]
  exact ⟨rfl, hq⟩
def rcAS (I : mI) (o t : Nat) (k : Nat) (s : Nat) : Nat := (if (I (o + 2) t) = (I (o + 2) (t + 1 + k)) then (if (I (o + 8) ((4 * (hmN (I (o + 3)) t)) + (hmN (I (o + 3)) (t + 1 + k)))) = (-1) then s else (s + 1)) else s)
def rcA (I : mI) (o t : Nat) (s0 : Nat) : Nat → Nat
  | 0 => s0
  | k + 1 => rcAS I o t k (rcA I o t s0 k)
theorem l_rcA {S : Nat × (Nat → Int32)} {d n : Nat} {I : mI} {J : mJ} {R : mR} (hn : 122 ≤ n) (hR : m_fin R) {o nh nl : Nat} (ho : o ∈ m_offs) (hr : offR R o) (hon : o + 8 < n) (hh : I o 0 = nI nh) (hnh : nh ≤ 6) (hl : I o 1 = nI nl) (hnl : nl ≤ 10) (hW : WFc I o nl) (hH : WFh (I (o + 2)) nl) {t : Nat} (ht : t < nl)  {s0 : Nat} {Q : Option Value → mI → mJ → mR → Prop}  (hx : AW S d YOffice_ruledCouples n n Q 72 [(3, .int (nI (t + 1 + (nl - (t + 1))))), (1, .int (nI (rcA I o t s0 (nl - (t + 1))))), (0, .ref o), (2, .int (nI t))] [] I J R n) : ∀ m k, k + m = (nl - (t + 1)) → ∀ s : Nat, rcA I o t s0 k = s → AW S d YOffice_ruledCouples n n Q 16 [(3, .int (nI (t + 1 + k))), (1, .int (nI s)), (0, .ref o), (2, .int (nI t))] [] I J R n := by
  intro m
  induction m with
  | zero =>
    intro k hk9 s es
    rw [show k = (nl - (t + 1)) by omega] at es ⊢
    subst es
    refine a_iload_n 0 dOffice_ruledCouples_16 rfl rfl ?_
    refine a_aload_n 2 dOffice_ruledCouples_17 rfl rfl ?_
    refine a_geti dOffice_ruledCouples_18 fl4_40 rfl (of_l0 ho) (by omega) ?_
    rw [show I o 1 = (nI nl) from hl]
    refine a_icmp_geN (tgt := 72) dOffice_ruledCouples_21 (by decide) (by omega) (by omega) (fun _ => ?_) (fun c => False.elim (by omega))
    exact hx
  | succ m ih =>
    intro k hk9 s es
    have hk1 := (kdC hW (l := t) (by omega)).2
    have hk2 := (kdC hW (l := t + 1 + k) (by omega)).2
    refine a_iload_n 0 dOffice_ruledCouples_16 rfl rfl ?_
    refine a_aload_n 2 dOffice_ruledCouples_17 rfl rfl ?_
    refine a_geti dOffice_ruledCouples_18 fl4_40 rfl (of_l0 ho) (by omega) ?_
    rw [show I o 1 = (nI nl) from hl]
    refine a_icmp_geN (tgt := 72) dOffice_ruledCouples_21 (by decide) (by omega) (by omega) (fun c => False.elim (by omega)) (fun _ => ?_)
    refine a_aload_n 2 dOffice_ruledCouples_24 rfl rfl ?_
    refine a_geta (r := (o + 2)) dOffice_ruledCouples_25 fl4_15 rfl (of_l0 ho) (by omega) (hr 1 (by decide)) ?_
    refine a_iload_n 3 dOffice_ruledCouples_28 rfl rfl ?_
    refine a_ialdN (a := t) dOffice_ruledCouples_29 (of_l2 ho) (by omega) (by omega) (by decide) ?_
    rw [show I (o + 2) t = I (o + 2) t from rfl]
    refine a_aload_n 2 dOffice_ruledCouples_30 rfl rfl ?_
    refine a_geta (r := (o + 2)) dOffice_ruledCouples_31 fl4_15 rfl (of_l0 ho) (by omega) (hr 1 (by decide)) ?_
    refine a_iload_n 0 dOffice_ruledCouples_34 rfl rfl ?_
    refine a_ialdN (a := (t + 1 + k)) dOffice_ruledCouples_35 (of_l2 ho) (by omega) (by omega) (by decide) ?_
    rw [show I (o + 2) (t + 1 + k) = I (o + 2) (t + 1 + k) from rfl]
    refine a_icmp_ne (tgt := 66) dOffice_ruledCouples_36 (by decide) (fun c36 => ?_) (fun c36 => ?_)
    · refine a_iincN (lv' := [(3, .int (nI ((t + 1 + k) + 1))), (1, .int (nI s)), (0, .ref o), (2, .int (nI t))]) (j := 0) dOffice_ruledCouples_66 rfl (by decide) rfl ?_
      refine a_goto (tgt := 16) dOffice_ruledCouples_69 (by decide) ?_
      have ez9 : rcA I o t s0 (k + 1) = s := by
        show rcAS I o t k (rcA I o t s0 k) = _
        rw [es]
        unfold rcAS
        rw [if_neg c36]
      exact ih (k + 1) (by omega) s ez9
    · refine a_aload_n 2 dOffice_ruledCouples_39 rfl rfl ?_
      refine a_geta (r := (o + 8)) dOffice_ruledCouples_40 fl4_33 rfl (of_l0 ho) (by omega) (hr 7 (by decide)) ?_
      refine a_iconstN (a := 4) dOffice_ruledCouples_43 (by decide) ?_
      refine a_aload_n 2 dOffice_ruledCouples_44 rfl rfl ?_
      refine a_geta (r := (o + 3)) dOffice_ruledCouples_45 fl4_18 rfl (of_l0 ho) (by omega) (hr 2 (by decide)) ?_
      refine a_iload_n 3 dOffice_ruledCouples_48 rfl rfl ?_
      refine a_ialdN (a := t) dOffice_ruledCouples_49 (of_l3 ho) (by omega) (by omega) (by decide) ?_
      rw [show I (o + 3) t = I (o + 3) t from rfl]
      rw [show (I (o + 3) t) = (nI (hmN (I (o + 3)) t)) from (kdC hW (by omega)).1]
      refine a_imulN (a := 4) (b := (hmN (I (o + 3)) t)) dOffice_ruledCouples_50 ?_
      refine a_aload_n 2 dOffice_ruledCouples_51 rfl rfl ?_
      refine a_geta (r := (o + 3)) dOffice_ruledCouples_52 fl4_18 rfl (of_l0 ho) (by omega) (hr 2 (by decide)) ?_
      refine a_iload_n 0 dOffice_ruledCouples_55 rfl rfl ?_
      refine a_ialdN (a := (t + 1 + k)) dOffice_ruledCouples_56 (of_l3 ho) (by omega) (by omega) (by decide) ?_
      rw [show I (o + 3) (t + 1 + k) = I (o + 3) (t + 1 + k) from rfl]
      rw [show (I (o + 3) (t + 1 + k)) = (nI (hmN (I (o + 3)) (t + 1 + k))) from (kdC hW (by omega)).1]
      refine a_iaddN (a := (4 * (hmN (I (o + 3)) t))) (b := (hmN (I (o + 3)) (t + 1 + k))) dOffice_ruledCouples_57 ?_
      refine a_ialdN (a := ((4 * (hmN (I (o + 3)) t)) + (hmN (I (o + 3)) (t + 1 + k)))) dOffice_ruledCouples_58 (of_l8 ho) (by omega) (by omega) (by decide) ?_
      rw [show I (o + 8) ((4 * (hmN (I (o + 3)) t)) + (hmN (I (o + 3)) (t + 1 + k))) = I (o + 8) ((4 * (hmN (I (o + 3)) t)) + (hmN (I (o + 3)) (t + 1 + k))) from rfl]
      refine a_iconst (v := -1) dOffice_ruledCouples_59 (by decide) ?_
      refine a_icmp_eq (tgt := 66) dOffice_ruledCouples_60 (by decide) (fun c60 => ?_) (fun c60 => ?_)
      · refine a_iincN (lv' := [(3, .int (nI ((t + 1 + k) + 1))), (1, .int (nI s)), (0, .ref o), (2, .int (nI t))]) (j := 0) dOffice_ruledCouples_66 rfl (by decide) rfl ?_
        refine a_goto (tgt := 16) dOffice_ruledCouples_69 (by decide) ?_
        have ez9 : rcA I o t s0 (k + 1) = s := by
          show rcAS I o t k (rcA I o t s0 k) = _
          rw [es]
          unfold rcAS
          rw [if_pos c36, if_pos c60]
        exact ih (k + 1) (by omega) s ez9
      · refine a_iincN (lv' := [(1, .int (nI (s + 1))), (3, .int (nI (t + 1 + k))), (0, .ref o), (2, .int (nI t))]) (j := 1) dOffice_ruledCouples_63 rfl (by decide) rfl ?_
        refine a_iincN (lv' := [(3, .int (nI ((t + 1 + k) + 1))), (1, .int (nI (s + 1))), (0, .ref o), (2, .int (nI t))]) (j := 1) dOffice_ruledCouples_66 rfl (by decide) rfl ?_
        refine a_goto (tgt := 16) dOffice_ruledCouples_69 (by decide) ?_
        have ez9 : rcA I o t s0 (k + 1) = (s + 1) := by
          show rcAS I o t k (rcA I o t s0 k) = _
          rw [es]
          unfold rcAS
          rw [if_pos c36, if_neg c60]
        exact ih (k + 1) (by omega) (s + 1) ez9
def rcBS (I : mI) (o nl : Nat) (k : Nat) (s : Nat) : Nat := (rcA I o k s (nl - (k + 1)))
def rcB (I : mI) (o nl : Nat) (s0 : Nat) : Nat → Nat
  | 0 => s0
  | k + 1 => rcBS I o nl k (rcB I o nl s0 k)
theorem l_rcB {S : Nat × (Nat → Int32)} {d n : Nat} {I : mI} {J : mJ} {R : mR} (hn : 122 ≤ n) (hR : m_fin R) {o nh nl : Nat} (ho : o ∈ m_offs) (hr : offR R o) (hon : o + 8 < n) (hh : I o 0 = nI nh) (hnh : nh ≤ 6) (hl : I o 1 = nI nl) (hnl : nl ≤ 10) (hW : WFc I o nl) (hH : WFh (I (o + 2)) nl)  {s0 : Nat} {Q : Option Value → mI → mJ → mR → Prop}  (hx : AW S d YOffice_ruledCouples n n Q 78 [(2, .int (nI nl)), (1, .int (nI (rcB I o nl s0 nl))), (0, .ref o)] [] I J R n) : ∀ m k, k + m = nl → ∀ s : Nat, rcB I o nl s0 k = s → AW S d YOffice_ruledCouples n n Q 4 [(2, .int (nI k)), (1, .int (nI s)), (0, .ref o)] [] I J R n := by
  intro m
  induction m with
  | zero =>
    intro k hk9 s es
    rw [show k = nl by omega] at es ⊢
    subst es
    refine a_iload_n 0 dOffice_ruledCouples_4 rfl rfl ?_
    refine a_aload_n 2 dOffice_ruledCouples_5 rfl rfl ?_
    refine a_geti dOffice_ruledCouples_6 fl4_40 rfl (of_l0 ho) (by omega) ?_
    rw [show I o 1 = (nI nl) from hl]
    refine a_icmp_geN (tgt := 78) dOffice_ruledCouples_9 (by decide) (by omega) (by omega) (fun _ => ?_) (fun c => False.elim (by omega))
    exact hx
  | succ m ih =>
    intro k hk9 s es
    refine a_iload_n 0 dOffice_ruledCouples_4 rfl rfl ?_
    refine a_aload_n 2 dOffice_ruledCouples_5 rfl rfl ?_
    refine a_geti dOffice_ruledCouples_6 fl4_40 rfl (of_l0 ho) (by omega) ?_
    rw [show I o 1 = (nI nl) from hl]
    refine a_icmp_geN (tgt := 78) dOffice_ruledCouples_9 (by decide) (by omega) (by omega) (fun c => False.elim (by omega)) (fun _ => ?_)
    refine a_iload_n 0 dOffice_ruledCouples_12 rfl rfl ?_
    refine a_iconstN (a := 1) dOffice_ruledCouples_13 (by decide) ?_
    refine a_iaddN (a := k) (b := 1) dOffice_ruledCouples_14 ?_
    refine a_istore_n (lv' := [(3, .int (nI (k + 1))), (2, .int (nI k)), (1, .int (nI s)), (0, .ref o)]) dOffice_ruledCouples_15 rfl (by decide) rfl ?_
    show AW _ _ _ _ _ _ _ [(3, .int (nI (k + 1 + 0))), (2, .int (nI k)), (1, .int (nI s)), (0, .ref o)] _ _ _ _ _
    refine a_locs (lv' := [(3, .int (nI (k + 1 + 0))), (1, .int (nI s)), (0, .ref o), (2, .int (nI k))]) [0, 2, 3, 1] rfl ?_
    refine l_rcA (s0 := s) hn hR ho hr hon hh hnh hl hnl hW hH (t := k) (by omega) ?_ (nl - (k + 1)) 0 (by omega) _ rfl
    refine a_iincN (lv' := [(2, .int (nI (k + 1))), (3, .int (nI (k + 1 + (nl - (k + 1))))), (1, .int (nI (rcA I o k s (nl - (k + 1))))), (0, .ref o)]) (j := 3) dOffice_ruledCouples_72 rfl (by decide) rfl ?_
    refine a_goto (tgt := 4) dOffice_ruledCouples_75 (by decide) ?_
    have ez9 : rcB I o nl s0 (k + 1) = (rcA I o k s (nl - (k + 1))) := by
      show rcBS I o nl k (rcB I o nl s0 k) = _
      rw [es]
      unfold rcBS
      rfl
    refine a_locs (lv' := [(2, .int (nI (k + 1))), (1, .int (nI (rcA I o k s (nl - (k + 1))))), (0, .ref o)]) [0, 2, 3] rfl ?_
    exact ih (k + 1) (by omega) (rcA I o k s (nl - (k + 1))) ez9
theorem c_Office_ruledCouples {S : Nat × (Nat → Int32)} {d n : Nat} {I : mI} {J : mJ} {R : mR} (hn : 122 ≤ n) (hR : m_fin R) {o nh nl : Nat} (ho : o ∈ m_offs) (hr : offR R o) (hon : o + 8 < n) (hh : I o 0 = nI nh) (hnh : nh ≤ 6) (hl : I o 1 = nI nl) (hnl : nl ≤ 10) (hW : WFc I o nl) (hH : WFh (I (o + 2)) nl)  : RUN S d YOffice_ruledCouples [.ref o] I J R n (some (.int (nI (rcB I o nl 0 nl)))) I J R n := by
  show AW S _ YOffice_ruledCouples n n _ 0 [(0, .ref o)] [] I J R n
  refine a_iconstN (a := 0) dOffice_ruledCouples_0 (by decide) ?_
  refine a_istore_n (lv' := [(1, .int (nI 0)), (0, .ref o)]) dOffice_ruledCouples_1 rfl (by decide) rfl ?_
  refine a_iconstN (a := 0) dOffice_ruledCouples_2 (by decide) ?_
  refine a_istore_n (lv' := [(2, .int (nI 0)), (1, .int (nI 0)), (0, .ref o)]) dOffice_ruledCouples_3 rfl (by decide) rfl ?_
  refine l_rcB (s0 := 0) hn hR ho hr hon hh hnh hl hnl hW hH ?_ nl 0 (by omega) _ rfl
  refine a_iload_n 1 dOffice_ruledCouples_78 rfl rfl ?_
  exact a_iret dOffice_ruledCouples_79 rfl ⟨rfl, rfl, rfl, rfl⟩
