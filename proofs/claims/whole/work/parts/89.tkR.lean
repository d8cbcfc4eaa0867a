theorem by_all {P : Int32 → Prop} (h : ∀ k, k < 256 → P (Int8.toInt32 (Int8.ofNat k))) {x : Int32} (hx : x.toInt8.toInt32 = x) : P x := by
  rw [← hx]
  have e : x.toInt8 = Int8.ofNat x.toInt8.toBitVec.toNat := by
    apply Int8.toBitVec_inj.mp
    show x.toInt8.toBitVec = BitVec.ofNat 8 x.toInt8.toBitVec.toNat
    rw [BitVec.ofNat_toNat]
    simp
  rw [e]
  exact h _ x.toInt8.toBitVec.isLt
theorem sg_10 {x : Int32} (hx : x.toInt8.toInt32 = x) : x &&& nI 255 = nI 10 ↔ x = nI 10 := by_all (P := fun x => x &&& nI 255 = nI 10 ↔ x = nI 10) (by decide +kernel) hx
theorem sg_32 {x : Int32} (hx : x.toInt8.toInt32 = x) : x &&& nI 255 = nI 32 ↔ x = nI 32 := by_all (P := fun x => x &&& nI 255 = nI 32 ↔ x = nI 32) (by decide +kernel) hx
theorem sg_59 {x : Int32} (hx : x.toInt8.toInt32 = x) : x &&& nI 255 = nI 59 ↔ x = nI 59 := by_all (P := fun x => x &&& nI 255 = nI 59 ↔ x = nI 59) (by decide +kernel) hx
theorem sg_sm {x : Int32} (hx : x.toInt8.toInt32 = x) : f_in (x &&& nI 255) (nI 97) (nI 122) = f_in x (nI 97) (nI 122) := by_all (P := fun x => f_in (x &&& nI 255) (nI 97) (nI 122) = f_in x (nI 97) (nI 122)) (by decide +kernel) hx
theorem sg_dg {x : Int32} (hx : x.toInt8.toInt32 = x) : f_in (x &&& nI 255) (nI 48) (nI 57) = f_in x (nI 48) (nI 57) := by_all (P := fun x => f_in (x &&& nI 255) (nI 48) (nI 57) = f_in x (nI 48) (nI 57)) (by decide +kernel) hx
theorem sg_0 {x : Int32} (hx : x.toInt8.toInt32 = x) : ¬ (x &&& nI 255) < 0 := by_all (P := fun x => ¬ (x &&& nI 255) < 0) (by decide +kernel) hx
theorem sg_n {x : Int32} (hx : x.toInt8.toInt32 = x) : ¬ x < 0 → x &&& nI 255 = x := by_all (P := fun x => ¬ x < 0 → x &&& nI 255 = x) (by decide +kernel) hx
/-- what is seen -/
def svR (T : Nat → Int32) (len p : Nat) : Int32 := if p < len then T p &&& nI 255 else -1
theorem c_M_see {S : Nat × (Nat → Int32)} {d n : Nat} {I : mI} {J : mJ} {R : mR} (hn : 122 ≤ n) (hR : m_fin R) {G : Nat → Int32} {len p : Nat} (h9 : G 9 = nI p) (h10 : G 10 = nI len) (hl6 : len ≤ 600) (hp : p ≤ len)  : RUN S d YM_see [.ref 95] (m_row I 95 G) J R n (some (.int (svR (I 96) len p))) (m_row I 95 G) J R n := by
  show AW S _ YM_see n n _ 0 [(0, .ref 95)] [] (m_row I 95 G) J R n
  refine a_aload_n 0 dM_see_0 rfl rfl ?_
  refine a_geti dM_see_1 fl12_110 rfl ly_95 (by omega) ?_
  rw [show (m_row I 95 G) 95 9 = (nI p) from h9]
  refine a_aload_n 0 dM_see_4 rfl rfl ?_
  refine a_geti dM_see_5 fl12_113 rfl ly_95 (by omega) ?_
  rw [show (m_row I 95 G) 95 10 = (nI len) from h10]
  refine a_icmp_geN (tgt := 27) dM_see_8 (by decide) (by omega) (by omega) (fun c8 => ?_) (fun c8 => ?_)
  · refine a_iconst (v := -1) dM_see_27 (by decide) ?_
    exact a_iret dM_see_28 rfl ⟨by unfold svR; rw [if_neg (show ¬ p < len by omega)], rfl, rfl, rfl⟩
  · refine a_aload_n 0 dM_see_11 rfl rfl ?_
    refine a_geta (r := 96) dM_see_12 fl12_7 rfl ly_95 (by omega) (rf_95_1 hR) ?_
    refine a_aload_n 0 dM_see_15 rfl rfl ?_
    refine a_geti dM_see_16 fl12_110 rfl ly_95 (by omega) ?_
    rw [show (m_row I 95 G) 95 9 = (nI p) from h9]
    refine a_baldN (a := p) dM_see_19 ly_96 (by omega) (by omega) (by decide) (fun hb19 => ?_)
    rw [show (m_row I 95 G) 96 p = I 96 p from rfl]
    refine a_sipushN (a := 255) dM_see_20 (by decide) ?_
    refine a_iand dM_see_23 ?_
    refine a_goto (tgt := 28) dM_see_24 (by decide) ?_
    exact a_iret dM_see_28 rfl ⟨by unfold svR; rw [if_pos (show p < len by omega)], rfl, rfl, rfl⟩
theorem blB_iff {T : Nat → Int32} {p : Nat} : blB T p = true ↔ T p = nI 10 ∨ T p = nI 32 := by
  unfold blB f_bl
  by_cases h : T p = nI 10
  · rw [if_pos h]; exact ⟨fun _ => Or.inl h, fun _ => rfl⟩
  · rw [if_neg h]
    by_cases h2 : T p = nI 32
    · rw [if_pos h2]; exact ⟨fun _ => Or.inr h2, fun _ => rfl⟩
    · rw [if_neg h2]; exact ⟨fun q => absurd q (by decide), fun q => by rcases q with q | q; exact absurd q h; exact absurd q h2⟩
def byT (T : Nat → Int32) (len : Nat) : Prop := ∀ j, j < len → (T j).toInt8.toInt32 = T j
theorem l_tk1 {S : Nat × (Nat → Int32)} {d n : Nat} {I : mI} {J : mJ} {R : mR} (hn : 122 ≤ n) (hR : m_fin R) {F : Nat → Int32} {len : Nat} (hlen : F 10 = nI len) (hl6 : len ≤ 600) (hby : byT (I 96) len) {Q : Option Value → mI → mJ → mR → Prop} {e : Nat} (hx : AW S (d + 1) YM_token n n Q 31 [(0, .ref 95)] [] (m_row I 95 (va_up F 9 (nI e))) J R n) : ∀ m p, p + m = len → spW (blB (I 96)) m p = e → AW S (d + 1) YM_token n n Q 0 [(0, .ref 95)] [] (m_row I 95 (va_up F 9 (nI p))) J R n := by
  intro m
  induction m with
  | zero =>
    intro p hp9 he
    obtain rfl : p = len := by omega
    obtain rfl : p = e := he
    refine a_aload_n 0 dM_token_0 rfl rfl ?_
    refine a_callV (Q' := m_res (some (.int (svR (I 96) p p))) (m_row I 95 (va_up F 9 (nI p))) J R) (as := []) (st := []) dM_token_1 ml12_116 rfl (Nat.le_of_ble_eq_true rfl) ly_95 rfl rfl (by decide) (by omega) (Nat.le_of_ble_eq_true rfl) rfl (Nat.le_refl _) (Nat.le_refl _) (c_M_see (G := (va_up F 9 (nI p))) (p := p) hn hR rfl hlen hl6 (by omega)) (m_go ?_)
    show AW _ _ _ _ _ _ _ _ [.int (svR (I 96) p p)] _ _ _ _
    rw [show (svR (I 96) p p) = (-1) from (if_neg (Nat.lt_irrefl p))]
    refine a_bipushN (a := 10) dM_token_4 (by decide) ?_
    refine a_icmp_eq (tgt := 18) dM_token_6 (by decide) (fun c => False.elim (absurd c (by decide))) (fun _ => ?_)
    refine a_aload_n 0 dM_token_9 rfl rfl ?_
    refine a_callV (Q' := m_res (some (.int (svR (I 96) p p))) (m_row I 95 (va_up F 9 (nI p))) J R) (as := []) (st := []) dM_token_10 ml12_116 rfl (Nat.le_of_ble_eq_true rfl) ly_95 rfl rfl (by decide) (by omega) (Nat.le_of_ble_eq_true rfl) rfl (Nat.le_refl _) (Nat.le_refl _) (c_M_see (G := (va_up F 9 (nI p))) (p := p) hn hR rfl hlen hl6 (by omega)) (m_go ?_)
    show AW _ _ _ _ _ _ _ _ [.int (svR (I 96) p p)] _ _ _ _
    rw [show (svR (I 96) p p) = (-1) from (if_neg (Nat.lt_irrefl p))]
    refine a_bipushN (a := 32) dM_token_13 (by decide) ?_
    refine a_icmp_ne (tgt := 31) dM_token_15 (by decide) (fun _ => ?_) (fun c => False.elim (absurd c (by decide)))
    exact hx
  | succ m ih =>
    intro p hp9 he
    have hbp := hby p (by omega)
    unfold spW at he
    by_cases a : I 96 p = nI 10
    · refine a_aload_n 0 dM_token_0 rfl rfl ?_
      refine a_callV (Q' := m_res (some (.int (svR (I 96) len p))) (m_row I 95 (va_up F 9 (nI p))) J R) (as := []) (st := []) dM_token_1 ml12_116 rfl (Nat.le_of_ble_eq_true rfl) ly_95 rfl rfl (by decide) (by omega) (Nat.le_of_ble_eq_true rfl) rfl (Nat.le_refl _) (Nat.le_refl _) (c_M_see (G := (va_up F 9 (nI p))) (p := p) hn hR rfl hlen hl6 (by omega)) (m_go ?_)
      show AW _ _ _ _ _ _ _ _ [.int (svR (I 96) len p)] _ _ _ _
      rw [show (svR (I 96) len p) = (I 96 p &&& nI 255) from (if_pos (show p < len by omega))]
      refine a_bipushN (a := 10) dM_token_4 (by decide) ?_
      refine a_icmp_eq (tgt := 18) dM_token_6 (by decide) (fun _ => ?_) (fun c => False.elim (c ((sg_10 hbp).mpr a)))
      refine a_aload_n 0 dM_token_18 rfl rfl ?_
      refine a_dup dM_token_19 rfl ?_
      refine a_geti dM_token_20 fl12_110 rfl ly_95 (by omega) ?_
      rw [show (m_row I 95 (va_up F 9 (nI p))) 95 9 = (nI p) from rfl]
      refine a_iconstN (a := 1) dM_token_23 (by decide) ?_
      refine a_iaddN (a := p) (b := 1) dM_token_24 ?_
      refine a_puti dM_token_25 fl12_110 rfl ly_95 (by omega) ?_
      rw [show m_up (m_row I 95 (va_up F 9 (nI p))) 95 9 (nI (p + 1)) = (m_row I 95 (va_up F 9 (nI (p + 1)))) from (by rw [m_up_r, show va_up (va_up F 9 (nI p)) 9 (nI (p + 1)) = (va_up F 9 (nI (p + 1))) from va_uu])]
      refine a_goto (tgt := 0) dM_token_28 (by decide) ?_
      exact ih (p + 1) (by omega) (by rw [if_pos (blB_iff.mpr (Or.inl a))] at he; exact he)
    · by_cases b : I 96 p = nI 32
      · refine a_aload_n 0 dM_token_0 rfl rfl ?_
        refine a_callV (Q' := m_res (some (.int (svR (I 96) len p))) (m_row I 95 (va_up F 9 (nI p))) J R) (as := []) (st := []) dM_token_1 ml12_116 rfl (Nat.le_of_ble_eq_true rfl) ly_95 rfl rfl (by decide) (by omega) (Nat.le_of_ble_eq_true rfl) rfl (Nat.le_refl _) (Nat.le_refl _) (c_M_see (G := (va_up F 9 (nI p))) (p := p) hn hR rfl hlen hl6 (by omega)) (m_go ?_)
        show AW _ _ _ _ _ _ _ _ [.int (svR (I 96) len p)] _ _ _ _
        rw [show (svR (I 96) len p) = (I 96 p &&& nI 255) from (if_pos (show p < len by omega))]
        refine a_bipushN (a := 10) dM_token_4 (by decide) ?_
        refine a_icmp_eq (tgt := 18) dM_token_6 (by decide) (fun c => False.elim (a ((sg_10 hbp).mp c))) (fun _ => ?_)
        refine a_aload_n 0 dM_token_9 rfl rfl ?_
        refine a_callV (Q' := m_res (some (.int (svR (I 96) len p))) (m_row I 95 (va_up F 9 (nI p))) J R) (as := []) (st := []) dM_token_10 ml12_116 rfl (Nat.le_of_ble_eq_true rfl) ly_95 rfl rfl (by decide) (by omega) (Nat.le_of_ble_eq_true rfl) rfl (Nat.le_refl _) (Nat.le_refl _) (c_M_see (G := (va_up F 9 (nI p))) (p := p) hn hR rfl hlen hl6 (by omega)) (m_go ?_)
        show AW _ _ _ _ _ _ _ _ [.int (svR (I 96) len p)] _ _ _ _
        rw [show (svR (I 96) len p) = (I 96 p &&& nI 255) from (if_pos (show p < len by omega))]
        refine a_bipushN (a := 32) dM_token_13 (by decide) ?_
        refine a_icmp_ne (tgt := 31) dM_token_15 (by decide) (fun c => False.elim (c ((sg_32 hbp).mpr b))) (fun _ => ?_)
        refine a_aload_n 0 dM_token_18 rfl rfl ?_
        refine a_dup dM_token_19 rfl ?_
        refine a_geti dM_token_20 fl12_110 rfl ly_95 (by omega) ?_
        rw [show (m_row I 95 (va_up F 9 (nI p))) 95 9 = (nI p) from rfl]
        refine a_iconstN (a := 1) dM_token_23 (by decide) ?_
        refine a_iaddN (a := p) (b := 1) dM_token_24 ?_
        refine a_puti dM_token_25 fl12_110 rfl ly_95 (by omega) ?_
        rw [show m_up (m_row I 95 (va_up F 9 (nI p))) 95 9 (nI (p + 1)) = (m_row I 95 (va_up F 9 (nI (p + 1)))) from (by rw [m_up_r, show va_up (va_up F 9 (nI p)) 9 (nI (p + 1)) = (va_up F 9 (nI (p + 1))) from va_uu])]
        refine a_goto (tgt := 0) dM_token_28 (by decide) ?_
        exact ih (p + 1) (by omega) (by rw [if_pos (blB_iff.mpr (Or.inr b))] at he; exact he)
      · refine a_aload_n 0 dM_token_0 rfl rfl ?_
        refine a_callV (Q' := m_res (some (.int (svR (I 96) len p))) (m_row I 95 (va_up F 9 (nI p))) J R) (as := []) (st := []) dM_token_1 ml12_116 rfl (Nat.le_of_ble_eq_true rfl) ly_95 rfl rfl (by decide) (by omega) (Nat.le_of_ble_eq_true rfl) rfl (Nat.le_refl _) (Nat.le_refl _) (c_M_see (G := (va_up F 9 (nI p))) (p := p) hn hR rfl hlen hl6 (by omega)) (m_go ?_)
        show AW _ _ _ _ _ _ _ _ [.int (svR (I 96) len p)] _ _ _ _
        rw [show (svR (I 96) len p) = (I 96 p &&& nI 255) from (if_pos (show p < len by omega))]
        refine a_bipushN (a := 10) dM_token_4 (by decide) ?_
        refine a_icmp_eq (tgt := 18) dM_token_6 (by decide) (fun c => False.elim (a ((sg_10 hbp).mp c))) (fun _ => ?_)
        refine a_aload_n 0 dM_token_9 rfl rfl ?_
        refine a_callV (Q' := m_res (some (.int (svR (I 96) len p))) (m_row I 95 (va_up F 9 (nI p))) J R) (as := []) (st := []) dM_token_10 ml12_116 rfl (Nat.le_of_ble_eq_true rfl) ly_95 rfl rfl (by decide) (by omega) (Nat.le_of_ble_eq_true rfl) rfl (Nat.le_refl _) (Nat.le_refl _) (c_M_see (G := (va_up F 9 (nI p))) (p := p) hn hR rfl hlen hl6 (by omega)) (m_go ?_)
        show AW _ _ _ _ _ _ _ _ [.int (svR (I 96) len p)] _ _ _ _
        rw [show (svR (I 96) len p) = (I 96 p &&& nI 255) from (if_pos (show p < len by omega))]
        refine a_bipushN (a := 32) dM_token_13 (by decide) ?_
        refine a_icmp_ne (tgt := 31) dM_token_15 (by decide) (fun _ => ?_) (fun c => False.elim (b ((sg_32 hbp).mp c)))
        rw [if_neg (fun q => by rcases blB_iff.mp q with q | q; exact a q; exact b q)] at he
        subst he
        exact hx
def wdV (T : Nat → Int32) : Nat → Nat → Int64 → Int64
  | 0, _, w => w
  | m + 1, p, w => if smB T p = true then wdV T m (p + 1) ((w <<< ((nI 8).toInt64 &&& 63)) ||| (T p &&& nI 255).toInt64) else w
theorem mJ_uu {J : mJ} {a k : Nat} {x y : Int64} : m_up (m_up J a k x) a k y = m_up J a k y := by
  funext i j
  unfold m_up
  by_cases h1 : i = a
  · simp [h1]
    unfold va_up
    by_cases h2 : j = k <;> simp [h2]
  · simp [h1]
theorem l_tk2 {S : Nat × (Nat → Int32)} {d n : Nat} {I : mI} {J : mJ} {R : mR} (hn : 122 ≤ n) (hR : m_fin R) {F : Nat → Int32} {len : Nat} (hlen : F 10 = nI len) (hl6 : len ≤ 600) (hby : byT (I 96) len) {b : Nat} {c1 : Int32} {Q : Option Value → mI → mJ → mR → Prop} {e : Nat} {w9 : Int64} (hx : AW S (d + 1) YM_token n n Q 121 [(2, .int (nI (e - b))), (0, .ref 95), (1, .int c1)] [] (m_row I 95 (va_up (va_up F 9 (nI e)) 11 (nI b))) (m_up J 95 14 w9) R n) : ∀ m p k w, p + m = len → p = b + k → spW (smB (I 96)) m p = e → wdV (I 96) m p w = w9 → AW S (d + 1) YM_token n n Q 74 [(2, .int (nI k)), (0, .ref 95), (1, .int c1)] [] (m_row I 95 (va_up (va_up F 9 (nI p)) 11 (nI b))) (m_up J 95 14 w) R n := by
  intro m
  induction m with
  | zero =>
    intro p k w hp9 hpk he hw
    obtain rfl : p = len := by omega
    obtain rfl : p = e := he
    obtain rfl : w = w9 := hw
    obtain rfl : k = p - b := by omega
    refine a_aload_n 1 dM_token_74 rfl rfl ?_
    refine a_callV (Q' := m_res (some (.int (svR (I 96) p p))) (m_row I 95 (va_up (va_up F 9 (nI p)) 11 (nI b))) (m_up J 95 14 w) R) (as := []) (st := []) dM_token_75 ml12_116 rfl (Nat.le_of_ble_eq_true rfl) ly_95 rfl rfl (by decide) (by omega) (Nat.le_of_ble_eq_true rfl) rfl (Nat.le_refl _) (Nat.le_refl _) (c_M_see (G := (va_up (va_up F 9 (nI p)) 11 (nI b))) (p := p) hn hR rfl hlen hl6 (by omega)) (m_go ?_)
    show AW _ _ _ _ _ _ _ _ [.int (svR (I 96) p p)] _ _ _ _
    rw [show (svR (I 96) p p) = (-1) from (if_neg (Nat.lt_irrefl p))]
    refine a_bipushN (a := 97) dM_token_78 (by decide) ?_
    refine a_bipushN (a := 122) dM_token_80 (by decide) ?_
    refine a_callS (Q' := m_res (some (.int (f_in (-1) (nI 97) (nI 122)))) (m_row I 95 (va_up (va_up F 9 (nI p)) 11 (nI b))) (m_up J 95 14 w) R) (as := [.int (-1), .int (nI 97), .int (nI 122)]) (st := []) dM_token_82 ml12_102 rfl (Nat.le_of_ble_eq_true rfl) (Nat.le_of_ble_eq_true rfl) rfl (Nat.le_refl _) (Nat.le_refl _) c_M_in (m_go ?_)
    show AW _ _ _ _ _ _ _ _ [.int (f_in (-1) (nI 97) (nI 122))] _ _ _ _
    refine a_if_eq (tgt := 121) dM_token_85 (by decide) (fun _ => ?_) (fun c => False.elim (c (by decide)))
    exact hx
  | succ m ih =>
    intro p k w hp9 hpk he hw
    have hbp := hby p (by omega)
    unfold spW at he
    unfold wdV at hw
    by_cases hq : smB (I 96) p = true
    · refine a_aload_n 1 dM_token_74 rfl rfl ?_
      refine a_callV (Q' := m_res (some (.int (svR (I 96) len p))) (m_row I 95 (va_up (va_up F 9 (nI p)) 11 (nI b))) (m_up J 95 14 w) R) (as := []) (st := []) dM_token_75 ml12_116 rfl (Nat.le_of_ble_eq_true rfl) ly_95 rfl rfl (by decide) (by omega) (Nat.le_of_ble_eq_true rfl) rfl (Nat.le_refl _) (Nat.le_refl _) (c_M_see (G := (va_up (va_up F 9 (nI p)) 11 (nI b))) (p := p) hn hR rfl hlen hl6 (by omega)) (m_go ?_)
      show AW _ _ _ _ _ _ _ _ [.int (svR (I 96) len p)] _ _ _ _
      rw [show (svR (I 96) len p) = (I 96 p &&& nI 255) from (if_pos (show p < len by omega))]
      refine a_bipushN (a := 97) dM_token_78 (by decide) ?_
      refine a_bipushN (a := 122) dM_token_80 (by decide) ?_
      refine a_callS (Q' := m_res (some (.int (f_in (I 96 p &&& nI 255) (nI 97) (nI 122)))) (m_row I 95 (va_up (va_up F 9 (nI p)) 11 (nI b))) (m_up J 95 14 w) R) (as := [.int (I 96 p &&& nI 255), .int (nI 97), .int (nI 122)]) (st := []) dM_token_82 ml12_102 rfl (Nat.le_of_ble_eq_true rfl) (Nat.le_of_ble_eq_true rfl) rfl (Nat.le_refl _) (Nat.le_refl _) c_M_in (m_go ?_)
      show AW _ _ _ _ _ _ _ _ [.int (f_in (I 96 p &&& nI 255) (nI 97) (nI 122))] _ _ _ _
      rw [show (f_in (I 96 p &&& nI 255) (nI 97) (nI 122)) = (f_in (I 96 p) (nI 97) (nI 122)) from (sg_sm hbp)]
      refine a_if_eq (tgt := 121) dM_token_85 (by decide) (fun c => False.elim ((of_decide_eq_true hq) c)) (fun _ => ?_)
      refine a_aload_n 1 dM_token_88 rfl rfl ?_
      refine a_aload_n 1 dM_token_89 rfl rfl ?_
      refine a_getl dM_token_90 fl12_123 rfl ly_95 (by omega) ?_
      rw [show (m_up J 95 14 w) 95 14 = w from by rfl]
      refine a_bipushN (a := 8) dM_token_93 (by decide) ?_
      refine a_lshl dM_token_95 ?_
      refine a_aload_n 1 dM_token_96 rfl rfl ?_
      refine a_callV (Q' := m_res (some (.int (svR (I 96) len p))) (m_row I 95 (va_up (va_up F 9 (nI p)) 11 (nI b))) (m_up J 95 14 w) R) (as := []) (st := [.long (w <<< (Int32.toInt64 (nI 8) &&& 63)), .ref 95]) dM_token_97 ml12_116 rfl (Nat.le_of_ble_eq_true rfl) ly_95 rfl rfl (by decide) (by omega) (Nat.le_of_ble_eq_true rfl) rfl (Nat.le_refl _) (Nat.le_refl _) (c_M_see (G := (va_up (va_up F 9 (nI p)) 11 (nI b))) (p := p) hn hR rfl hlen hl6 (by omega)) (m_go ?_)
      show AW _ _ _ _ _ _ _ _ [.int (svR (I 96) len p), .long (w <<< (Int32.toInt64 (nI 8) &&& 63)), .ref 95] _ _ _ _
      rw [show (svR (I 96) len p) = (I 96 p &&& nI 255) from (if_pos (show p < len by omega))]
      refine a_i2l dM_token_100 ?_
      refine a_lor dM_token_101 ?_
      refine a_putl dM_token_102 fl12_123 rfl ly_95 (by omega) ?_
      rw [mJ_uu]
      refine a_aload_n 1 dM_token_105 rfl rfl ?_
      refine a_dup dM_token_106 rfl ?_
      refine a_geti dM_token_107 fl12_110 rfl ly_95 (by omega) ?_
      rw [show (m_row I 95 (va_up (va_up F 9 (nI p)) 11 (nI b))) 95 9 = (nI p) from rfl]
      refine a_iconstN (a := 1) dM_token_110 (by decide) ?_
      refine a_iaddN (a := p) (b := 1) dM_token_111 ?_
      refine a_puti dM_token_112 fl12_110 rfl ly_95 (by omega) ?_
      rw [show m_up (m_row I 95 (va_up (va_up F 9 (nI p)) 11 (nI b))) 95 9 (nI (p + 1)) = (m_row I 95 (va_up (va_up F 9 (nI (p + 1))) 11 (nI b))) from (by rw [m_up_r, show va_up (va_up (va_up F 9 (nI p)) 11 (nI b)) 9 (nI (p + 1)) = (va_up (va_up F 9 (nI (p + 1))) 11 (nI b)) from ((va_uc (by decide)).trans (congrArg (fun g => va_up g 11 (nI b)) va_uu))])]
      refine a_iincN (lv' := [(2, .int (nI (k + 1))), (0, .ref 95), (1, .int c1)]) (j := 0) dM_token_115 rfl (by decide) rfl ?_
      refine a_goto (tgt := 74) dM_token_118 (by decide) ?_
      rw [if_pos hq] at he hw
      exact ih (p + 1) (k + 1) _ (by omega) (by omega) he hw
    · refine a_aload_n 1 dM_token_74 rfl rfl ?_
      refine a_callV (Q' := m_res (some (.int (svR (I 96) len p))) (m_row I 95 (va_up (va_up F 9 (nI p)) 11 (nI b))) (m_up J 95 14 w) R) (as := []) (st := []) dM_token_75 ml12_116 rfl (Nat.le_of_ble_eq_true rfl) ly_95 rfl rfl (by decide) (by omega) (Nat.le_of_ble_eq_true rfl) rfl (Nat.le_refl _) (Nat.le_refl _) (c_M_see (G := (va_up (va_up F 9 (nI p)) 11 (nI b))) (p := p) hn hR rfl hlen hl6 (by omega)) (m_go ?_)
      show AW _ _ _ _ _ _ _ _ [.int (svR (I 96) len p)] _ _ _ _
      rw [show (svR (I 96) len p) = (I 96 p &&& nI 255) from (if_pos (show p < len by omega))]
      refine a_bipushN (a := 97) dM_token_78 (by decide) ?_
      refine a_bipushN (a := 122) dM_token_80 (by decide) ?_
      refine a_callS (Q' := m_res (some (.int (f_in (I 96 p &&& nI 255) (nI 97) (nI 122)))) (m_row I 95 (va_up (va_up F 9 (nI p)) 11 (nI b))) (m_up J 95 14 w) R) (as := [.int (I 96 p &&& nI 255), .int (nI 97), .int (nI 122)]) (st := []) dM_token_82 ml12_102 rfl (Nat.le_of_ble_eq_true rfl) (Nat.le_of_ble_eq_true rfl) rfl (Nat.le_refl _) (Nat.le_refl _) c_M_in (m_go ?_)
      show AW _ _ _ _ _ _ _ _ [.int (f_in (I 96 p &&& nI 255) (nI 97) (nI 122))] _ _ _ _
      rw [show (f_in (I 96 p &&& nI 255) (nI 97) (nI 122)) = (f_in (I 96 p) (nI 97) (nI 122)) from (sg_sm hbp)]
      refine a_if_eq (tgt := 121) dM_token_85 (by decide) (fun _ => ?_) (fun c => False.elim (hq (decide_eq_true c)))
      rw [if_neg hq] at he hw
      subst he
      subst hw
      obtain rfl : k = p - b := by omega
      exact hx
def vlV (T : Nat → Int32) : Nat → Nat → Nat → Int32 → Int32
  | 0, _, _, v => v
  | m + 1, p, k, v => if dgB T p = true then vlV T m (p + 1) (k + 1) (if k < 2 then nI 10 * v + (T p &&& nI 255) - nI 48 else v) else v
theorem l_tk3 {S : Nat × (Nat → Int32)} {d n : Nat} {I : mI} {J : mJ} {R : mR} (hn : 122 ≤ n) (hR : m_fin R) {F : Nat → Int32} {len : Nat} (hlen : F 10 = nI len) (hl6 : len ≤ 600) (hby : byT (I 96) len) {b : Nat} {c1 : Int32} {Q : Option Value → mI → mJ → mR → Prop} {e : Nat} {v9 : Int32} (hx : AW S (d + 1) YM_token n n Q 224 [(2, .int (nI (e - b))), (0, .ref 95), (1, .int c1)] [] (m_row I 95 (va_up (va_up (va_up F 9 (nI e)) 11 (nI b)) 13 v9)) J R n) : ∀ m p k v, p + m = len → p = b + k → spW (dgB (I 96)) m p = e → vlV (I 96) m p k v = v9 → AW S (d + 1) YM_token n n Q 163 [(2, .int (nI k)), (0, .ref 95), (1, .int c1)] [] (m_row I 95 (va_up (va_up (va_up F 9 (nI p)) 11 (nI b)) 13 v)) J R n := by
  intro m
  induction m with
  | zero =>
    intro p k v hp9 hpk he hw
    obtain rfl : p = len := by omega
    obtain rfl : p = e := he
    obtain rfl : v = v9 := hw
    obtain rfl : k = p - b := by omega
    refine a_aload_n 1 dM_token_163 rfl rfl ?_
    refine a_callV (Q' := m_res (some (.int (svR (I 96) p p))) (m_row I 95 (va_up (va_up (va_up F 9 (nI p)) 11 (nI b)) 13 v)) J R) (as := []) (st := []) dM_token_164 ml12_116 rfl (Nat.le_of_ble_eq_true rfl) ly_95 rfl rfl (by decide) (by omega) (Nat.le_of_ble_eq_true rfl) rfl (Nat.le_refl _) (Nat.le_refl _) (c_M_see (G := (va_up (va_up (va_up F 9 (nI p)) 11 (nI b)) 13 v)) (p := p) hn hR rfl hlen hl6 (by omega)) (m_go ?_)
    show AW _ _ _ _ _ _ _ _ [.int (svR (I 96) p p)] _ _ _ _
    rw [show (svR (I 96) p p) = (-1) from (if_neg (Nat.lt_irrefl p))]
    refine a_bipushN (a := 48) dM_token_167 (by decide) ?_
    refine a_bipushN (a := 57) dM_token_169 (by decide) ?_
    refine a_callS (Q' := m_res (some (.int (f_in (-1) (nI 48) (nI 57)))) (m_row I 95 (va_up (va_up (va_up F 9 (nI p)) 11 (nI b)) 13 v)) J R) (as := [.int (-1), .int (nI 48), .int (nI 57)]) (st := []) dM_token_171 ml12_102 rfl (Nat.le_of_ble_eq_true rfl) (Nat.le_of_ble_eq_true rfl) rfl (Nat.le_refl _) (Nat.le_refl _) c_M_in (m_go ?_)
    show AW _ _ _ _ _ _ _ _ [.int (f_in (-1) (nI 48) (nI 57))] _ _ _ _
    refine a_if_eq (tgt := 224) dM_token_174 (by decide) (fun _ => ?_) (fun c => False.elim (c (by decide)))
    exact hx
  | succ m ih =>
    intro p k v hp9 hpk he hw
    have hbp := hby p (by omega)
    unfold spW at he
    unfold vlV at hw
    by_cases hq : dgB (I 96) p = true
    · by_cases hk2 : k < 2
      · refine a_aload_n 1 dM_token_163 rfl rfl ?_
        refine a_callV (Q' := m_res (some (.int (svR (I 96) len p))) (m_row I 95 (va_up (va_up (va_up F 9 (nI p)) 11 (nI b)) 13 v)) J R) (as := []) (st := []) dM_token_164 ml12_116 rfl (Nat.le_of_ble_eq_true rfl) ly_95 rfl rfl (by decide) (by omega) (Nat.le_of_ble_eq_true rfl) rfl (Nat.le_refl _) (Nat.le_refl _) (c_M_see (G := (va_up (va_up (va_up F 9 (nI p)) 11 (nI b)) 13 v)) (p := p) hn hR rfl hlen hl6 (by omega)) (m_go ?_)
        show AW _ _ _ _ _ _ _ _ [.int (svR (I 96) len p)] _ _ _ _
        rw [show (svR (I 96) len p) = (I 96 p &&& nI 255) from (if_pos (show p < len by omega))]
        refine a_bipushN (a := 48) dM_token_167 (by decide) ?_
        refine a_bipushN (a := 57) dM_token_169 (by decide) ?_
        refine a_callS (Q' := m_res (some (.int (f_in (I 96 p &&& nI 255) (nI 48) (nI 57)))) (m_row I 95 (va_up (va_up (va_up F 9 (nI p)) 11 (nI b)) 13 v)) J R) (as := [.int (I 96 p &&& nI 255), .int (nI 48), .int (nI 57)]) (st := []) dM_token_171 ml12_102 rfl (Nat.le_of_ble_eq_true rfl) (Nat.le_of_ble_eq_true rfl) rfl (Nat.le_refl _) (Nat.le_refl _) c_M_in (m_go ?_)
        show AW _ _ _ _ _ _ _ _ [.int (f_in (I 96 p &&& nI 255) (nI 48) (nI 57))] _ _ _ _
        rw [show (f_in (I 96 p &&& nI 255) (nI 48) (nI 57)) = (f_in (I 96 p) (nI 48) (nI 57)) from (sg_dg hbp)]
        refine a_if_eq (tgt := 224) dM_token_174 (by decide) (fun c => False.elim ((of_decide_eq_true hq) c)) (fun _ => ?_)
        refine a_aload_n 1 dM_token_177 rfl rfl ?_
        refine a_iload_n 0 dM_token_178 rfl rfl ?_
        refine a_iconstN (a := 2) dM_token_179 (by decide) ?_
        refine a_icmp_geN (tgt := 201) dM_token_180 (by decide) (by omega) (by omega) (fun c => False.elim (by omega)) (fun _ => ?_)
        refine a_bipushN (a := 10) dM_token_183 (by decide) ?_
        refine a_aload_n 1 dM_token_185 rfl rfl ?_
        refine a_geti dM_token_186 fl12_130 rfl ly_95 (by omega) ?_
        rw [show (m_row I 95 (va_up (va_up (va_up F 9 (nI p)) 11 (nI b)) 13 v)) 95 13 = v from rfl]
        refine a_imul dM_token_189 ?_
        refine a_aload_n 1 dM_token_190 rfl rfl ?_
        refine a_callV (Q' := m_res (some (.int (svR (I 96) len p))) (m_row I 95 (va_up (va_up (va_up F 9 (nI p)) 11 (nI b)) 13 v)) J R) (as := []) (st := [.int ((nI 10) * v), .ref 95]) dM_token_191 ml12_116 rfl (Nat.le_of_ble_eq_true rfl) ly_95 rfl rfl (by decide) (by omega) (Nat.le_of_ble_eq_true rfl) rfl (Nat.le_refl _) (Nat.le_refl _) (c_M_see (G := (va_up (va_up (va_up F 9 (nI p)) 11 (nI b)) 13 v)) (p := p) hn hR rfl hlen hl6 (by omega)) (m_go ?_)
        show AW _ _ _ _ _ _ _ _ [.int (svR (I 96) len p), .int ((nI 10) * v), .ref 95] _ _ _ _
        rw [show (svR (I 96) len p) = (I 96 p &&& nI 255) from (if_pos (show p < len by omega))]
        refine a_iadd dM_token_194 ?_
        refine a_bipushN (a := 48) dM_token_195 (by decide) ?_
        refine a_isub dM_token_197 ?_
        refine a_goto (tgt := 205) dM_token_198 (by decide) ?_
        refine a_puti dM_token_205 fl12_130 rfl ly_95 (by omega) ?_
        rw [show m_up (m_row I 95 (va_up (va_up (va_up F 9 (nI p)) 11 (nI b)) 13 v)) 95 13 ((((nI 10) * v) + (I 96 p &&& nI 255)) - (nI 48)) = (m_row I 95 (va_up (va_up (va_up F 9 (nI p)) 11 (nI b)) 13 ((((nI 10) * v) + (I 96 p &&& nI 255)) - (nI 48)))) from (by rw [m_up_r, show va_up (va_up (va_up (va_up F 9 (nI p)) 11 (nI b)) 13 v) 13 ((((nI 10) * v) + (I 96 p &&& nI 255)) - (nI 48)) = (va_up (va_up (va_up F 9 (nI p)) 11 (nI b)) 13 ((((nI 10) * v) + (I 96 p &&& nI 255)) - (nI 48))) from va_uu])]
        refine a_aload_n 1 dM_token_208 rfl rfl ?_
        refine a_dup dM_token_209 rfl ?_
        refine a_geti dM_token_210 fl12_110 rfl ly_95 (by omega) ?_
        rw [show (m_row I 95 (va_up (va_up (va_up F 9 (nI p)) 11 (nI b)) 13 ((((nI 10) * v) + (I 96 p &&& nI 255)) - (nI 48)))) 95 9 = (nI p) from rfl]
        refine a_iconstN (a := 1) dM_token_213 (by decide) ?_
        refine a_iaddN (a := p) (b := 1) dM_token_214 ?_
        refine a_puti dM_token_215 fl12_110 rfl ly_95 (by omega) ?_
        rw [show m_up (m_row I 95 (va_up (va_up (va_up F 9 (nI p)) 11 (nI b)) 13 ((((nI 10) * v) + (I 96 p &&& nI 255)) - (nI 48)))) 95 9 (nI (p + 1)) = (m_row I 95 (va_up (va_up (va_up F 9 (nI (p + 1))) 11 (nI b)) 13 ((((nI 10) * v) + (I 96 p &&& nI 255)) - (nI 48)))) from (by rw [m_up_r, show va_up (va_up (va_up (va_up F 9 (nI p)) 11 (nI b)) 13 ((((nI 10) * v) + (I 96 p &&& nI 255)) - (nI 48))) 9 (nI (p + 1)) = (va_up (va_up (va_up F 9 (nI (p + 1))) 11 (nI b)) 13 ((((nI 10) * v) + (I 96 p &&& nI 255)) - (nI 48))) from ((va_uc (by decide)).trans (congrArg (fun g => va_up g 13 ((((nI 10) * v) + (I 96 p &&& nI 255)) - (nI 48))) ((va_uc (by decide)).trans (congrArg (fun g => va_up g 11 (nI b)) va_uu))))])]
        refine a_iincN (lv' := [(2, .int (nI (k + 1))), (0, .ref 95), (1, .int c1)]) (j := 0) dM_token_218 rfl (by decide) rfl ?_
        refine a_goto (tgt := 163) dM_token_221 (by decide) ?_
        rw [if_pos hq] at he hw
        rw [if_pos hk2] at hw
        exact ih (p + 1) (k + 1) _ (by omega) (by omega) he hw
      · refine a_aload_n 1 dM_token_163 rfl rfl ?_
        refine a_callV (Q' := m_res (some (.int (svR (I 96) len p))) (m_row I 95 (va_up (va_up (va_up F 9 (nI p)) 11 (nI b)) 13 v)) J R) (as := []) (st := []) dM_token_164 ml12_116 rfl (Nat.le_of_ble_eq_true rfl) ly_95 rfl rfl (by decide) (by omega) (Nat.le_of_ble_eq_true rfl) rfl (Nat.le_refl _) (Nat.le_refl _) (c_M_see (G := (va_up (va_up (va_up F 9 (nI p)) 11 (nI b)) 13 v)) (p := p) hn hR rfl hlen hl6 (by omega)) (m_go ?_)
        show AW _ _ _ _ _ _ _ _ [.int (svR (I 96) len p)] _ _ _ _
        rw [show (svR (I 96) len p) = (I 96 p &&& nI 255) from (if_pos (show p < len by omega))]
        refine a_bipushN (a := 48) dM_token_167 (by decide) ?_
        refine a_bipushN (a := 57) dM_token_169 (by decide) ?_
        refine a_callS (Q' := m_res (some (.int (f_in (I 96 p &&& nI 255) (nI 48) (nI 57)))) (m_row I 95 (va_up (va_up (va_up F 9 (nI p)) 11 (nI b)) 13 v)) J R) (as := [.int (I 96 p &&& nI 255), .int (nI 48), .int (nI 57)]) (st := []) dM_token_171 ml12_102 rfl (Nat.le_of_ble_eq_true rfl) (Nat.le_of_ble_eq_true rfl) rfl (Nat.le_refl _) (Nat.le_refl _) c_M_in (m_go ?_)
        show AW _ _ _ _ _ _ _ _ [.int (f_in (I 96 p &&& nI 255) (nI 48) (nI 57))] _ _ _ _
        rw [show (f_in (I 96 p &&& nI 255) (nI 48) (nI 57)) = (f_in (I 96 p) (nI 48) (nI 57)) from (sg_dg hbp)]
        refine a_if_eq (tgt := 224) dM_token_174 (by decide) (fun c => False.elim ((of_decide_eq_true hq) c)) (fun _ => ?_)
        refine a_aload_n 1 dM_token_177 rfl rfl ?_
        refine a_iload_n 0 dM_token_178 rfl rfl ?_
        refine a_iconstN (a := 2) dM_token_179 (by decide) ?_
        refine a_icmp_geN (tgt := 201) dM_token_180 (by decide) (by omega) (by omega) (fun _ => ?_) (fun c => False.elim (by omega))
        refine a_aload_n 1 dM_token_201 rfl rfl ?_
        refine a_geti dM_token_202 fl12_130 rfl ly_95 (by omega) ?_
        rw [show (m_row I 95 (va_up (va_up (va_up F 9 (nI p)) 11 (nI b)) 13 v)) 95 13 = v from rfl]
        refine a_puti dM_token_205 fl12_130 rfl ly_95 (by omega) ?_
        rw [show m_up (m_row I 95 (va_up (va_up (va_up F 9 (nI p)) 11 (nI b)) 13 v)) 95 13 v = (m_row I 95 (va_up (va_up (va_up F 9 (nI p)) 11 (nI b)) 13 v)) from (by rw [m_up_r, show va_up (va_up (va_up (va_up F 9 (nI p)) 11 (nI b)) 13 v) 13 v = (va_up (va_up (va_up F 9 (nI p)) 11 (nI b)) 13 v) from va_uu])]
        refine a_aload_n 1 dM_token_208 rfl rfl ?_
        refine a_dup dM_token_209 rfl ?_
        refine a_geti dM_token_210 fl12_110 rfl ly_95 (by omega) ?_
        rw [show (m_row I 95 (va_up (va_up (va_up F 9 (nI p)) 11 (nI b)) 13 v)) 95 9 = (nI p) from rfl]
        refine a_iconstN (a := 1) dM_token_213 (by decide) ?_
        refine a_iaddN (a := p) (b := 1) dM_token_214 ?_
        refine a_puti dM_token_215 fl12_110 rfl ly_95 (by omega) ?_
        rw [show m_up (m_row I 95 (va_up (va_up (va_up F 9 (nI p)) 11 (nI b)) 13 v)) 95 9 (nI (p + 1)) = (m_row I 95 (va_up (va_up (va_up F 9 (nI (p + 1))) 11 (nI b)) 13 v)) from (by rw [m_up_r, show va_up (va_up (va_up (va_up F 9 (nI p)) 11 (nI b)) 13 v) 9 (nI (p + 1)) = (va_up (va_up (va_up F 9 (nI (p + 1))) 11 (nI b)) 13 v) from ((va_uc (by decide)).trans (congrArg (fun g => va_up g 13 v) ((va_uc (by decide)).trans (congrArg (fun g => va_up g 11 (nI b)) va_uu))))])]
        refine a_iincN (lv' := [(2, .int (nI (k + 1))), (0, .ref 95), (1, .int c1)]) (j := 0) dM_token_218 rfl (by decide) rfl ?_
        refine a_goto (tgt := 163) dM_token_221 (by decide) ?_
        rw [if_pos hq] at he hw
        rw [if_neg hk2] at hw
        exact ih (p + 1) (k + 1) _ (by omega) (by omega) he hw
    · refine a_aload_n 1 dM_token_163 rfl rfl ?_
      refine a_callV (Q' := m_res (some (.int (svR (I 96) len p))) (m_row I 95 (va_up (va_up (va_up F 9 (nI p)) 11 (nI b)) 13 v)) J R) (as := []) (st := []) dM_token_164 ml12_116 rfl (Nat.le_of_ble_eq_true rfl) ly_95 rfl rfl (by decide) (by omega) (Nat.le_of_ble_eq_true rfl) rfl (Nat.le_refl _) (Nat.le_refl _) (c_M_see (G := (va_up (va_up (va_up F 9 (nI p)) 11 (nI b)) 13 v)) (p := p) hn hR rfl hlen hl6 (by omega)) (m_go ?_)
      show AW _ _ _ _ _ _ _ _ [.int (svR (I 96) len p)] _ _ _ _
      rw [show (svR (I 96) len p) = (I 96 p &&& nI 255) from (if_pos (show p < len by omega))]
      refine a_bipushN (a := 48) dM_token_167 (by decide) ?_
      refine a_bipushN (a := 57) dM_token_169 (by decide) ?_
      refine a_callS (Q' := m_res (some (.int (f_in (I 96 p &&& nI 255) (nI 48) (nI 57)))) (m_row I 95 (va_up (va_up (va_up F 9 (nI p)) 11 (nI b)) 13 v)) J R) (as := [.int (I 96 p &&& nI 255), .int (nI 48), .int (nI 57)]) (st := []) dM_token_171 ml12_102 rfl (Nat.le_of_ble_eq_true rfl) (Nat.le_of_ble_eq_true rfl) rfl (Nat.le_refl _) (Nat.le_refl _) c_M_in (m_go ?_)
      show AW _ _ _ _ _ _ _ _ [.int (f_in (I 96 p &&& nI 255) (nI 48) (nI 57))] _ _ _ _
      rw [show (f_in (I 96 p &&& nI 255) (nI 48) (nI 57)) = (f_in (I 96 p) (nI 48) (nI 57)) from (sg_dg hbp)]
      refine a_if_eq (tgt := 224) dM_token_174 (by decide) (fun _ => ?_) (fun c => False.elim (hq (decide_eq_true c)))
      rw [if_neg hq] at he hw
      subst he
      subst hw
      obtain rfl : k = p - b := by omega
      exact hx
theorem va_ui2 {f : Nat → Int32} {k : Nat} {x : Int32} (h : f k = x) : va_up f k x = f := by rw [← h]; exact va_ui
/-- the sort as the reference counts them -/
def rsS (s : Nat) : Nat := if s = 0 then 0 else if s = 1 then 2 else if s = 2 then 3 else if s = 3 then 4 else 1
/-- a word's long, a number's value -/
def tkW (T : Nat → Int32) (len p : Nat) : Int64 := if len ≤ tkB T len p then 0 else if smB T (tkB T len p) = true then (if tkE T len p - tkB T len p ≤ 8 then wdV T (len - tkB T len p) (tkB T len p) 0 else 0) else 0
def tkV (T : Nat → Int32) (len p : Nat) (v : Int32) : Int32 := if len ≤ tkB T len p then v else if smB T (tkB T len p) = true then v else if dgB T (tkB T len p) = true then vlV T (len - tkB T len p) (tkB T len p) 0 (nI 0) else v
abbrev tkG (T : Nat → Int32) (len p : Nat) (F : Nat → Int32) : Nat → Int32 := va_up (va_up (va_up (va_up F 9 (nI (tkE T len p))) 11 (nI (tkB T len p))) 12 (nI (rsS (tkS T len p)))) 13 (tkV T len p (F 13))
theorem spW_1 {q : Nat → Bool} {len b : Nat} (h : b < len) (hq : q b = true) : spW q (len - b) b = spW q (len - (b + 1)) (b + 1) := by
  rw [show len - b = (len - (b + 1)) + 1 by omega]
  show (if q b = true then _ else _) = _
  rw [if_pos hq]
theorem c_M_token {S : Nat × (Nat → Int32)} {d n : Nat} {I : mI} {J : mJ} {R : mR} (hn : 122 ≤ n) (hR : m_fin R) {F : Nat → Int32} {len : Nat} (hlen : F 10 = nI len) (hl6 : len ≤ 600) (hby : byT (I 96) len) {p : Nat} (hp : p ≤ len) (h9p : F 9 = nI p)  : RUN S (d + 1) YM_token [.ref 95] (m_row I 95 F) J R n none (m_row I 95 (tkG (I 96) len p F)) (m_up J 95 14 (tkW (I 96) len p)) R n := by
  show AW S _ YM_token n n _ 0 [(0, .ref 95)] [] (m_row I 95 F) J R n
  have hb9 := tkB_le (T := I 96) hp
  refine a_mem (show m_row I 95 F = m_row I 95 (va_up F 9 (nI p)) by rw [va_ui2 h9p]) ?_
  refine l_tk1 hn hR hlen hl6 hby (e := (tkB (I 96) len p)) ?_ (len - p) p (by omega) rfl
  by_cases h0 : len ≤ (tkB (I 96) len p)
  · refine a_aload_n 0 dM_token_31 rfl rfl ?_
    refine a_aload_n 0 dM_token_32 rfl rfl ?_
    refine a_geti dM_token_33 fl12_110 rfl ly_95 (by omega) ?_
    rw [show (m_row I 95 (va_up F 9 (nI (tkB (I 96) len p)))) 95 9 = (nI (tkB (I 96) len p)) from rfl]
    refine a_puti dM_token_36 fl12_120 rfl ly_95 (by omega) ?_
    rw [show m_up (m_row I 95 (va_up F 9 (nI (tkB (I 96) len p)))) 95 11 (nI (tkB (I 96) len p)) = (m_row I 95 (va_up (va_up F 9 (nI (tkB (I 96) len p))) 11 (nI (tkB (I 96) len p)))) from (by rw [m_up_r])]
    refine a_aload_n 0 dM_token_39 rfl rfl ?_
    refine a_callV (Q' := m_res (some (.int (svR (I 96) len (tkB (I 96) len p)))) (m_row I 95 (va_up (va_up F 9 (nI (tkB (I 96) len p))) 11 (nI (tkB (I 96) len p)))) J R) (as := []) (st := []) dM_token_40 ml12_116 rfl (Nat.le_of_ble_eq_true rfl) ly_95 rfl rfl (by decide) (by omega) (Nat.le_of_ble_eq_true rfl) rfl (Nat.le_refl _) (Nat.le_refl _) (c_M_see (G := (va_up (va_up F 9 (nI (tkB (I 96) len p))) 11 (nI (tkB (I 96) len p)))) (p := (tkB (I 96) len p)) hn hR rfl hlen hl6 (by omega)) (m_go ?_)
    show AW _ _ _ _ _ _ _ _ [.int (svR (I 96) len (tkB (I 96) len p))] _ _ _ _
    rw [show (svR (I 96) len (tkB (I 96) len p)) = (-1) from (if_neg (show ¬ (tkB (I 96) len p) < len by omega))]
    refine a_istore_n (lv' := [(1, .int (-1)), (0, .ref 95)]) dM_token_43 rfl (by decide) rfl ?_
    refine a_aload_n 1 dM_token_44 rfl rfl ?_
    refine a_lconst (v := 0) dM_token_45 (by decide) ?_
    refine a_putl dM_token_46 fl12_123 rfl ly_95 (by omega) ?_
    refine a_iconstN (a := 0) dM_token_49 (by decide) ?_
    refine a_istore_n (lv' := [(2, .int (nI 0)), (1, .int (-1)), (0, .ref 95)]) dM_token_50 rfl (by decide) rfl ?_
    refine a_iload_n 1 dM_token_51 rfl rfl ?_
    refine a_if_ge (tgt := 63) dM_token_52 (by decide) (fun c => False.elim (absurd c (by decide))) (fun _ => ?_)
    refine a_aload_n 2 dM_token_55 rfl rfl ?_
    refine a_iconstN (a := 0) dM_token_56 (by decide) ?_
    refine a_puti dM_token_57 fl12_127 rfl ly_95 (by omega) ?_
    rw [show m_up (m_row I 95 (va_up (va_up F 9 (nI (tkB (I 96) len p))) 11 (nI (tkB (I 96) len p)))) 95 12 (nI 0) = (m_row I 95 (va_up (va_up (va_up F 9 (nI (tkB (I 96) len p))) 11 (nI (tkB (I 96) len p))) 12 (nI 0))) from (by rw [m_up_r])]
    refine a_goto (tgt := 266) dM_token_60 (by decide) ?_
    exact a_vret dM_token_266 rfl ⟨rfl, by unfold tkG; rw [show tkS (I 96) len p = 0 from if_pos h0, show tkE (I 96) len p = (tkB (I 96) len p) from (if_pos h0).trans (by omega), show tkV (I 96) len p (F 13) = F 13 from if_pos h0]; exact congrArg (m_row I 95) (va_ui2 rfl).symm, by rw [show tkW (I 96) len p = 0 from if_pos h0], rfl⟩
  · have hbp := hby (tkB (I 96) len p) (by omega)
    by_cases h1 : smB (I 96) (tkB (I 96) len p) = true
    · refine a_aload_n 0 dM_token_31 rfl rfl ?_
      refine a_aload_n 0 dM_token_32 rfl rfl ?_
      refine a_geti dM_token_33 fl12_110 rfl ly_95 (by omega) ?_
      rw [show (m_row I 95 (va_up F 9 (nI (tkB (I 96) len p)))) 95 9 = (nI (tkB (I 96) len p)) from rfl]
      refine a_puti dM_token_36 fl12_120 rfl ly_95 (by omega) ?_
      rw [show m_up (m_row I 95 (va_up F 9 (nI (tkB (I 96) len p)))) 95 11 (nI (tkB (I 96) len p)) = (m_row I 95 (va_up (va_up F 9 (nI (tkB (I 96) len p))) 11 (nI (tkB (I 96) len p)))) from (by rw [m_up_r])]
      refine a_aload_n 0 dM_token_39 rfl rfl ?_
      refine a_callV (Q' := m_res (some (.int (svR (I 96) len (tkB (I 96) len p)))) (m_row I 95 (va_up (va_up F 9 (nI (tkB (I 96) len p))) 11 (nI (tkB (I 96) len p)))) J R) (as := []) (st := []) dM_token_40 ml12_116 rfl (Nat.le_of_ble_eq_true rfl) ly_95 rfl rfl (by decide) (by omega) (Nat.le_of_ble_eq_true rfl) rfl (Nat.le_refl _) (Nat.le_refl _) (c_M_see (G := (va_up (va_up F 9 (nI (tkB (I 96) len p))) 11 (nI (tkB (I 96) len p)))) (p := (tkB (I 96) len p)) hn hR rfl hlen hl6 (by omega)) (m_go ?_)
      show AW _ _ _ _ _ _ _ _ [.int (svR (I 96) len (tkB (I 96) len p))] _ _ _ _
      rw [show (svR (I 96) len (tkB (I 96) len p)) = (I 96 (tkB (I 96) len p) &&& nI 255) from (if_pos (show (tkB (I 96) len p) < len by omega))]
      refine a_istore_n (lv' := [(1, .int (I 96 (tkB (I 96) len p) &&& nI 255)), (0, .ref 95)]) dM_token_43 rfl (by decide) rfl ?_
      refine a_aload_n 1 dM_token_44 rfl rfl ?_
      refine a_lconst (v := 0) dM_token_45 (by decide) ?_
      refine a_putl dM_token_46 fl12_123 rfl ly_95 (by omega) ?_
      refine a_iconstN (a := 0) dM_token_49 (by decide) ?_
      refine a_istore_n (lv' := [(2, .int (nI 0)), (1, .int (I 96 (tkB (I 96) len p) &&& nI 255)), (0, .ref 95)]) dM_token_50 rfl (by decide) rfl ?_
      refine a_iload_n 1 dM_token_51 rfl rfl ?_
      refine a_if_ge (tgt := 63) dM_token_52 (by decide) (fun _ => ?_) (fun c => False.elim (c (Int32.not_lt.mp (sg_0 hbp))))
      refine a_iload_n 1 dM_token_63 rfl rfl ?_
      refine a_bipushN (a := 97) dM_token_64 (by decide) ?_
      refine a_bipushN (a := 122) dM_token_66 (by decide) ?_
      refine a_callS (Q' := m_res (some (.int (f_in (I 96 (tkB (I 96) len p) &&& nI 255) (nI 97) (nI 122)))) (m_row I 95 (va_up (va_up F 9 (nI (tkB (I 96) len p))) 11 (nI (tkB (I 96) len p)))) (m_up J 95 14 0) R) (as := [.int (I 96 (tkB (I 96) len p) &&& nI 255), .int (nI 97), .int (nI 122)]) (st := []) dM_token_68 ml12_102 rfl (Nat.le_of_ble_eq_true rfl) (Nat.le_of_ble_eq_true rfl) rfl (Nat.le_refl _) (Nat.le_refl _) c_M_in (m_go ?_)
      show AW _ _ _ _ _ _ _ _ [.int (f_in (I 96 (tkB (I 96) len p) &&& nI 255) (nI 97) (nI 122))] _ _ _ _
      rw [show (f_in (I 96 (tkB (I 96) len p) &&& nI 255) (nI 97) (nI 122)) = (f_in (I 96 (tkB (I 96) len p)) (nI 97) (nI 122)) from (sg_sm hbp)]
      refine a_if_eq (tgt := 147) dM_token_71 (by decide) (fun c => False.elim ((of_decide_eq_true h1) c)) (fun _ => ?_)
      refine a_locs (lv' := [(2, .int (nI 0)), (0, .ref 95), (1, .int (I 96 (tkB (I 96) len p) &&& nI 255))]) [0, 2, 1] rfl ?_
      refine l_tk2 hn hR hlen hl6 hby (b := (tkB (I 96) len p)) (e := (spW (smB (I 96)) (len - (tkB (I 96) len p)) (tkB (I 96) len p))) (w9 := (wdV (I 96) (len - (tkB (I 96) len p)) (tkB (I 96) len p) 0)) ?_ (len - (tkB (I 96) len p)) (tkB (I 96) len p) 0 0 (by omega) (by omega) rfl rfl
      have hsp := spW_le (q := smB (I 96)) (len - (tkB (I 96) len p)) (tkB (I 96) len p)
      refine a_aload_n 1 dM_token_121 rfl rfl ?_
      refine a_iload_n 0 dM_token_122 rfl rfl ?_
      refine a_bipushN (a := 8) dM_token_123 (by decide) ?_
      refine a_icmp_leN (tgt := 132) dM_token_125 (by decide) (by omega) (by omega) (fun c125 => ?_) (fun c125 => ?_)
      · refine a_aload_n 1 dM_token_132 rfl rfl ?_
        refine a_getl dM_token_133 fl12_123 rfl ly_95 (by omega) ?_
        rw [show (m_up J 95 14 (wdV (I 96) (len - (tkB (I 96) len p)) (tkB (I 96) len p) 0)) 95 14 = (wdV (I 96) (len - (tkB (I 96) len p)) (tkB (I 96) len p) 0) from by rfl]
        refine a_putl dM_token_136 fl12_123 rfl ly_95 (by omega) ?_
        rw [mJ_uu]
        refine a_aload_n 1 dM_token_139 rfl rfl ?_
        refine a_iconstN (a := 2) dM_token_140 (by decide) ?_
        refine a_puti dM_token_141 fl12_127 rfl ly_95 (by omega) ?_
        rw [show m_up (m_row I 95 (va_up (va_up F 9 (nI (spW (smB (I 96)) (len - (tkB (I 96) len p)) (tkB (I 96) len p)))) 11 (nI (tkB (I 96) len p)))) 95 12 (nI 2) = (m_row I 95 (va_up (va_up (va_up F 9 (nI (spW (smB (I 96)) (len - (tkB (I 96) len p)) (tkB (I 96) len p)))) 11 (nI (tkB (I 96) len p))) 12 (nI 2))) from (by rw [m_up_r])]
        refine a_goto (tgt := 266) dM_token_144 (by decide) ?_
        exact a_vret dM_token_266 rfl ⟨rfl, by unfold tkG; rw [show tkS (I 96) len p = 1 from (if_neg h0).trans (if_pos h1), show tkE (I 96) len p = (spW (smB (I 96)) (len - (tkB (I 96) len p)) (tkB (I 96) len p)) from ((if_neg h0).trans (if_pos h1)).trans (spW_1 (by omega) h1).symm, show tkV (I 96) len p (F 13) = F 13 from (if_neg h0).trans (if_pos h1)]; exact congrArg (m_row I 95) (va_ui2 rfl).symm, by rw [show tkW (I 96) len p = (wdV (I 96) (len - (tkB (I 96) len p)) (tkB (I 96) len p) 0) from ((if_neg h0).trans (if_pos h1)).trans (by rw [(show tkE (I 96) len p = (spW (smB (I 96)) (len - (tkB (I 96) len p)) (tkB (I 96) len p)) from ((if_neg h0).trans (if_pos h1)).trans (spW_1 (by omega) h1).symm)]; exact if_pos (show (spW (smB (I 96)) (len - (tkB (I 96) len p)) (tkB (I 96) len p)) - (tkB (I 96) len p) ≤ 8 by omega))], rfl⟩
      · refine a_lconst (v := 0) dM_token_128 (by decide) ?_
        refine a_goto (tgt := 136) dM_token_129 (by decide) ?_
        refine a_putl dM_token_136 fl12_123 rfl ly_95 (by omega) ?_
        rw [mJ_uu]
        refine a_aload_n 1 dM_token_139 rfl rfl ?_
        refine a_iconstN (a := 2) dM_token_140 (by decide) ?_
        refine a_puti dM_token_141 fl12_127 rfl ly_95 (by omega) ?_
        rw [show m_up (m_row I 95 (va_up (va_up F 9 (nI (spW (smB (I 96)) (len - (tkB (I 96) len p)) (tkB (I 96) len p)))) 11 (nI (tkB (I 96) len p)))) 95 12 (nI 2) = (m_row I 95 (va_up (va_up (va_up F 9 (nI (spW (smB (I 96)) (len - (tkB (I 96) len p)) (tkB (I 96) len p)))) 11 (nI (tkB (I 96) len p))) 12 (nI 2))) from (by rw [m_up_r])]
        refine a_goto (tgt := 266) dM_token_144 (by decide) ?_
        exact a_vret dM_token_266 rfl ⟨rfl, by unfold tkG; rw [show tkS (I 96) len p = 1 from (if_neg h0).trans (if_pos h1), show tkE (I 96) len p = (spW (smB (I 96)) (len - (tkB (I 96) len p)) (tkB (I 96) len p)) from ((if_neg h0).trans (if_pos h1)).trans (spW_1 (by omega) h1).symm, show tkV (I 96) len p (F 13) = F 13 from (if_neg h0).trans (if_pos h1)]; exact congrArg (m_row I 95) (va_ui2 rfl).symm, by rw [show tkW (I 96) len p = 0 from ((if_neg h0).trans (if_pos h1)).trans (by rw [(show tkE (I 96) len p = (spW (smB (I 96)) (len - (tkB (I 96) len p)) (tkB (I 96) len p)) from ((if_neg h0).trans (if_pos h1)).trans (spW_1 (by omega) h1).symm)]; exact if_neg (show ¬ (spW (smB (I 96)) (len - (tkB (I 96) len p)) (tkB (I 96) len p)) - (tkB (I 96) len p) ≤ 8 by omega))], rfl⟩
    · by_cases h2 : dgB (I 96) (tkB (I 96) len p) = true
      · refine a_aload_n 0 dM_token_31 rfl rfl ?_
        refine a_aload_n 0 dM_token_32 rfl rfl ?_
        refine a_geti dM_token_33 fl12_110 rfl ly_95 (by omega) ?_
        rw [show (m_row I 95 (va_up F 9 (nI (tkB (I 96) len p)))) 95 9 = (nI (tkB (I 96) len p)) from rfl]
        refine a_puti dM_token_36 fl12_120 rfl ly_95 (by omega) ?_
        rw [show m_up (m_row I 95 (va_up F 9 (nI (tkB (I 96) len p)))) 95 11 (nI (tkB (I 96) len p)) = (m_row I 95 (va_up (va_up F 9 (nI (tkB (I 96) len p))) 11 (nI (tkB (I 96) len p)))) from (by rw [m_up_r])]
        refine a_aload_n 0 dM_token_39 rfl rfl ?_
        refine a_callV (Q' := m_res (some (.int (svR (I 96) len (tkB (I 96) len p)))) (m_row I 95 (va_up (va_up F 9 (nI (tkB (I 96) len p))) 11 (nI (tkB (I 96) len p)))) J R) (as := []) (st := []) dM_token_40 ml12_116 rfl (Nat.le_of_ble_eq_true rfl) ly_95 rfl rfl (by decide) (by omega) (Nat.le_of_ble_eq_true rfl) rfl (Nat.le_refl _) (Nat.le_refl _) (c_M_see (G := (va_up (va_up F 9 (nI (tkB (I 96) len p))) 11 (nI (tkB (I 96) len p)))) (p := (tkB (I 96) len p)) hn hR rfl hlen hl6 (by omega)) (m_go ?_)
        show AW _ _ _ _ _ _ _ _ [.int (svR (I 96) len (tkB (I 96) len p))] _ _ _ _
        rw [show (svR (I 96) len (tkB (I 96) len p)) = (I 96 (tkB (I 96) len p) &&& nI 255) from (if_pos (show (tkB (I 96) len p) < len by omega))]
        refine a_istore_n (lv' := [(1, .int (I 96 (tkB (I 96) len p) &&& nI 255)), (0, .ref 95)]) dM_token_43 rfl (by decide) rfl ?_
        refine a_aload_n 1 dM_token_44 rfl rfl ?_
        refine a_lconst (v := 0) dM_token_45 (by decide) ?_
        refine a_putl dM_token_46 fl12_123 rfl ly_95 (by omega) ?_
        refine a_iconstN (a := 0) dM_token_49 (by decide) ?_
        refine a_istore_n (lv' := [(2, .int (nI 0)), (1, .int (I 96 (tkB (I 96) len p) &&& nI 255)), (0, .ref 95)]) dM_token_50 rfl (by decide) rfl ?_
        refine a_iload_n 1 dM_token_51 rfl rfl ?_
        refine a_if_ge (tgt := 63) dM_token_52 (by decide) (fun _ => ?_) (fun c => False.elim (c (Int32.not_lt.mp (sg_0 hbp))))
        refine a_iload_n 1 dM_token_63 rfl rfl ?_
        refine a_bipushN (a := 97) dM_token_64 (by decide) ?_
        refine a_bipushN (a := 122) dM_token_66 (by decide) ?_
        refine a_callS (Q' := m_res (some (.int (f_in (I 96 (tkB (I 96) len p) &&& nI 255) (nI 97) (nI 122)))) (m_row I 95 (va_up (va_up F 9 (nI (tkB (I 96) len p))) 11 (nI (tkB (I 96) len p)))) (m_up J 95 14 0) R) (as := [.int (I 96 (tkB (I 96) len p) &&& nI 255), .int (nI 97), .int (nI 122)]) (st := []) dM_token_68 ml12_102 rfl (Nat.le_of_ble_eq_true rfl) (Nat.le_of_ble_eq_true rfl) rfl (Nat.le_refl _) (Nat.le_refl _) c_M_in (m_go ?_)
        show AW _ _ _ _ _ _ _ _ [.int (f_in (I 96 (tkB (I 96) len p) &&& nI 255) (nI 97) (nI 122))] _ _ _ _
        rw [show (f_in (I 96 (tkB (I 96) len p) &&& nI 255) (nI 97) (nI 122)) = (f_in (I 96 (tkB (I 96) len p)) (nI 97) (nI 122)) from (sg_sm hbp)]
        refine a_if_eq (tgt := 147) dM_token_71 (by decide) (fun _ => ?_) (fun c => False.elim (h1 (decide_eq_true c)))
        refine a_iload_n 1 dM_token_147 rfl rfl ?_
        refine a_bipushN (a := 48) dM_token_148 (by decide) ?_
        refine a_bipushN (a := 57) dM_token_150 (by decide) ?_
        refine a_callS (Q' := m_res (some (.int (f_in (I 96 (tkB (I 96) len p) &&& nI 255) (nI 48) (nI 57)))) (m_row I 95 (va_up (va_up F 9 (nI (tkB (I 96) len p))) 11 (nI (tkB (I 96) len p)))) (m_up J 95 14 0) R) (as := [.int (I 96 (tkB (I 96) len p) &&& nI 255), .int (nI 48), .int (nI 57)]) (st := []) dM_token_152 ml12_102 rfl (Nat.le_of_ble_eq_true rfl) (Nat.le_of_ble_eq_true rfl) rfl (Nat.le_refl _) (Nat.le_refl _) c_M_in (m_go ?_)
        show AW _ _ _ _ _ _ _ _ [.int (f_in (I 96 (tkB (I 96) len p) &&& nI 255) (nI 48) (nI 57))] _ _ _ _
        rw [show (f_in (I 96 (tkB (I 96) len p) &&& nI 255) (nI 48) (nI 57)) = (f_in (I 96 (tkB (I 96) len p)) (nI 48) (nI 57)) from (sg_dg hbp)]
        refine a_if_eq (tgt := 241) dM_token_155 (by decide) (fun c => False.elim ((of_decide_eq_true h2) c)) (fun _ => ?_)
        refine a_aload_n 2 dM_token_158 rfl rfl ?_
        refine a_iconstN (a := 0) dM_token_159 (by decide) ?_
        refine a_puti dM_token_160 fl12_130 rfl ly_95 (by omega) ?_
        rw [show m_up (m_row I 95 (va_up (va_up F 9 (nI (tkB (I 96) len p))) 11 (nI (tkB (I 96) len p)))) 95 13 (nI 0) = (m_row I 95 (va_up (va_up (va_up F 9 (nI (tkB (I 96) len p))) 11 (nI (tkB (I 96) len p))) 13 (nI 0))) from (by rw [m_up_r])]
        refine a_locs (lv' := [(2, .int (nI 0)), (0, .ref 95), (1, .int (I 96 (tkB (I 96) len p) &&& nI 255))]) [0, 2, 1] rfl ?_
        refine l_tk3 hn hR hlen hl6 hby (b := (tkB (I 96) len p)) (e := (spW (dgB (I 96)) (len - (tkB (I 96) len p)) (tkB (I 96) len p))) (v9 := (vlV (I 96) (len - (tkB (I 96) len p)) (tkB (I 96) len p) 0 (nI 0))) ?_ (len - (tkB (I 96) len p)) (tkB (I 96) len p) 0 (nI 0) (by omega) (by omega) rfl rfl
        have hsp := spW_le (q := dgB (I 96)) (len - (tkB (I 96) len p)) (tkB (I 96) len p)
        refine a_aload_n 1 dM_token_224 rfl rfl ?_
        refine a_iload_n 0 dM_token_225 rfl rfl ?_
        refine a_iconstN (a := 2) dM_token_226 (by decide) ?_
        refine a_icmp_leN (tgt := 234) dM_token_227 (by decide) (by omega) (by omega) (fun c227 => ?_) (fun c227 => ?_)
        · refine a_iconstN (a := 3) dM_token_234 (by decide) ?_
          refine a_puti dM_token_235 fl12_127 rfl ly_95 (by omega) ?_
          rw [show m_up (m_row I 95 (va_up (va_up (va_up F 9 (nI (spW (dgB (I 96)) (len - (tkB (I 96) len p)) (tkB (I 96) len p)))) 11 (nI (tkB (I 96) len p))) 13 (vlV (I 96) (len - (tkB (I 96) len p)) (tkB (I 96) len p) 0 (nI 0)))) 95 12 (nI 3) = (m_row I 95 (va_up (va_up (va_up (va_up F 9 (nI (spW (dgB (I 96)) (len - (tkB (I 96) len p)) (tkB (I 96) len p)))) 11 (nI (tkB (I 96) len p))) 12 (nI 3)) 13 (vlV (I 96) (len - (tkB (I 96) len p)) (tkB (I 96) len p) 0 (nI 0)))) from (by rw [m_up_r, show va_up (va_up (va_up (va_up F 9 (nI (spW (dgB (I 96)) (len - (tkB (I 96) len p)) (tkB (I 96) len p)))) 11 (nI (tkB (I 96) len p))) 13 (vlV (I 96) (len - (tkB (I 96) len p)) (tkB (I 96) len p) 0 (nI 0))) 12 (nI 3) = (va_up (va_up (va_up (va_up F 9 (nI (spW (dgB (I 96)) (len - (tkB (I 96) len p)) (tkB (I 96) len p)))) 11 (nI (tkB (I 96) len p))) 12 (nI 3)) 13 (vlV (I 96) (len - (tkB (I 96) len p)) (tkB (I 96) len p) 0 (nI 0))) from ((va_uc (by decide)).trans (congrArg (fun g => va_up g 13 (vlV (I 96) (len - (tkB (I 96) len p)) (tkB (I 96) len p) 0 (nI 0))) rfl))])]
          refine a_goto (tgt := 266) dM_token_238 (by decide) ?_
          exact a_vret dM_token_266 rfl ⟨rfl, by unfold tkG; rw [show tkS (I 96) len p = 2 from ((if_neg h0).trans (if_neg h1)).trans ((if_pos h2).trans (by rw [show tkE (I 96) len p = (spW (dgB (I 96)) (len - (tkB (I 96) len p)) (tkB (I 96) len p)) from ((if_neg h0).trans (if_neg h1)).trans ((if_pos h2).trans (spW_1 (by omega) h2).symm)]; exact if_pos (show (spW (dgB (I 96)) (len - (tkB (I 96) len p)) (tkB (I 96) len p)) - (tkB (I 96) len p) ≤ 2 by omega))), show tkE (I 96) len p = (spW (dgB (I 96)) (len - (tkB (I 96) len p)) (tkB (I 96) len p)) from ((if_neg h0).trans (if_neg h1)).trans ((if_pos h2).trans (spW_1 (by omega) h2).symm), show tkV (I 96) len p (F 13) = (vlV (I 96) (len - (tkB (I 96) len p)) (tkB (I 96) len p) 0 (nI 0)) from ((if_neg h0).trans (if_neg h1)).trans (if_pos h2)]; exact rfl, by rw [show tkW (I 96) len p = 0 from (if_neg h0).trans (if_neg h1)], rfl⟩
        · refine a_iconstN (a := 1) dM_token_230 (by decide) ?_
          refine a_goto (tgt := 235) dM_token_231 (by decide) ?_
          refine a_puti dM_token_235 fl12_127 rfl ly_95 (by omega) ?_
          rw [show m_up (m_row I 95 (va_up (va_up (va_up F 9 (nI (spW (dgB (I 96)) (len - (tkB (I 96) len p)) (tkB (I 96) len p)))) 11 (nI (tkB (I 96) len p))) 13 (vlV (I 96) (len - (tkB (I 96) len p)) (tkB (I 96) len p) 0 (nI 0)))) 95 12 (nI 1) = (m_row I 95 (va_up (va_up (va_up (va_up F 9 (nI (spW (dgB (I 96)) (len - (tkB (I 96) len p)) (tkB (I 96) len p)))) 11 (nI (tkB (I 96) len p))) 12 (nI 1)) 13 (vlV (I 96) (len - (tkB (I 96) len p)) (tkB (I 96) len p) 0 (nI 0)))) from (by rw [m_up_r, show va_up (va_up (va_up (va_up F 9 (nI (spW (dgB (I 96)) (len - (tkB (I 96) len p)) (tkB (I 96) len p)))) 11 (nI (tkB (I 96) len p))) 13 (vlV (I 96) (len - (tkB (I 96) len p)) (tkB (I 96) len p) 0 (nI 0))) 12 (nI 1) = (va_up (va_up (va_up (va_up F 9 (nI (spW (dgB (I 96)) (len - (tkB (I 96) len p)) (tkB (I 96) len p)))) 11 (nI (tkB (I 96) len p))) 12 (nI 1)) 13 (vlV (I 96) (len - (tkB (I 96) len p)) (tkB (I 96) len p) 0 (nI 0))) from ((va_uc (by decide)).trans (congrArg (fun g => va_up g 13 (vlV (I 96) (len - (tkB (I 96) len p)) (tkB (I 96) len p) 0 (nI 0))) rfl))])]
          refine a_goto (tgt := 266) dM_token_238 (by decide) ?_
          exact a_vret dM_token_266 rfl ⟨rfl, by unfold tkG; rw [show tkS (I 96) len p = 4 from ((if_neg h0).trans (if_neg h1)).trans ((if_pos h2).trans (by rw [show tkE (I 96) len p = (spW (dgB (I 96)) (len - (tkB (I 96) len p)) (tkB (I 96) len p)) from ((if_neg h0).trans (if_neg h1)).trans ((if_pos h2).trans (spW_1 (by omega) h2).symm)]; exact if_neg (show ¬ (spW (dgB (I 96)) (len - (tkB (I 96) len p)) (tkB (I 96) len p)) - (tkB (I 96) len p) ≤ 2 by omega))), show tkE (I 96) len p = (spW (dgB (I 96)) (len - (tkB (I 96) len p)) (tkB (I 96) len p)) from ((if_neg h0).trans (if_neg h1)).trans ((if_pos h2).trans (spW_1 (by omega) h2).symm), show tkV (I 96) len p (F 13) = (vlV (I 96) (len - (tkB (I 96) len p)) (tkB (I 96) len p) 0 (nI 0)) from ((if_neg h0).trans (if_neg h1)).trans (if_pos h2)]; exact rfl, by rw [show tkW (I 96) len p = 0 from (if_neg h0).trans (if_neg h1)], rfl⟩
      · refine a_aload_n 0 dM_token_31 rfl rfl ?_
        refine a_aload_n 0 dM_token_32 rfl rfl ?_
        refine a_geti dM_token_33 fl12_110 rfl ly_95 (by omega) ?_
        rw [show (m_row I 95 (va_up F 9 (nI (tkB (I 96) len p)))) 95 9 = (nI (tkB (I 96) len p)) from rfl]
        refine a_puti dM_token_36 fl12_120 rfl ly_95 (by omega) ?_
        rw [show m_up (m_row I 95 (va_up F 9 (nI (tkB (I 96) len p)))) 95 11 (nI (tkB (I 96) len p)) = (m_row I 95 (va_up (va_up F 9 (nI (tkB (I 96) len p))) 11 (nI (tkB (I 96) len p)))) from (by rw [m_up_r])]
        refine a_aload_n 0 dM_token_39 rfl rfl ?_
        refine a_callV (Q' := m_res (some (.int (svR (I 96) len (tkB (I 96) len p)))) (m_row I 95 (va_up (va_up F 9 (nI (tkB (I 96) len p))) 11 (nI (tkB (I 96) len p)))) J R) (as := []) (st := []) dM_token_40 ml12_116 rfl (Nat.le_of_ble_eq_true rfl) ly_95 rfl rfl (by decide) (by omega) (Nat.le_of_ble_eq_true rfl) rfl (Nat.le_refl _) (Nat.le_refl _) (c_M_see (G := (va_up (va_up F 9 (nI (tkB (I 96) len p))) 11 (nI (tkB (I 96) len p)))) (p := (tkB (I 96) len p)) hn hR rfl hlen hl6 (by omega)) (m_go ?_)
        show AW _ _ _ _ _ _ _ _ [.int (svR (I 96) len (tkB (I 96) len p))] _ _ _ _
        rw [show (svR (I 96) len (tkB (I 96) len p)) = (I 96 (tkB (I 96) len p) &&& nI 255) from (if_pos (show (tkB (I 96) len p) < len by omega))]
        refine a_istore_n (lv' := [(1, .int (I 96 (tkB (I 96) len p) &&& nI 255)), (0, .ref 95)]) dM_token_43 rfl (by decide) rfl ?_
        refine a_aload_n 1 dM_token_44 rfl rfl ?_
        refine a_lconst (v := 0) dM_token_45 (by decide) ?_
        refine a_putl dM_token_46 fl12_123 rfl ly_95 (by omega) ?_
        refine a_iconstN (a := 0) dM_token_49 (by decide) ?_
        refine a_istore_n (lv' := [(2, .int (nI 0)), (1, .int (I 96 (tkB (I 96) len p) &&& nI 255)), (0, .ref 95)]) dM_token_50 rfl (by decide) rfl ?_
        refine a_iload_n 1 dM_token_51 rfl rfl ?_
        refine a_if_ge (tgt := 63) dM_token_52 (by decide) (fun _ => ?_) (fun c => False.elim (c (Int32.not_lt.mp (sg_0 hbp))))
        refine a_iload_n 1 dM_token_63 rfl rfl ?_
        refine a_bipushN (a := 97) dM_token_64 (by decide) ?_
        refine a_bipushN (a := 122) dM_token_66 (by decide) ?_
        refine a_callS (Q' := m_res (some (.int (f_in (I 96 (tkB (I 96) len p) &&& nI 255) (nI 97) (nI 122)))) (m_row I 95 (va_up (va_up F 9 (nI (tkB (I 96) len p))) 11 (nI (tkB (I 96) len p)))) (m_up J 95 14 0) R) (as := [.int (I 96 (tkB (I 96) len p) &&& nI 255), .int (nI 97), .int (nI 122)]) (st := []) dM_token_68 ml12_102 rfl (Nat.le_of_ble_eq_true rfl) (Nat.le_of_ble_eq_true rfl) rfl (Nat.le_refl _) (Nat.le_refl _) c_M_in (m_go ?_)
        show AW _ _ _ _ _ _ _ _ [.int (f_in (I 96 (tkB (I 96) len p) &&& nI 255) (nI 97) (nI 122))] _ _ _ _
        rw [show (f_in (I 96 (tkB (I 96) len p) &&& nI 255) (nI 97) (nI 122)) = (f_in (I 96 (tkB (I 96) len p)) (nI 97) (nI 122)) from (sg_sm hbp)]
        refine a_if_eq (tgt := 147) dM_token_71 (by decide) (fun _ => ?_) (fun c => False.elim (h1 (decide_eq_true c)))
        refine a_iload_n 1 dM_token_147 rfl rfl ?_
        refine a_bipushN (a := 48) dM_token_148 (by decide) ?_
        refine a_bipushN (a := 57) dM_token_150 (by decide) ?_
        refine a_callS (Q' := m_res (some (.int (f_in (I 96 (tkB (I 96) len p) &&& nI 255) (nI 48) (nI 57)))) (m_row I 95 (va_up (va_up F 9 (nI (tkB (I 96) len p))) 11 (nI (tkB (I 96) len p)))) (m_up J 95 14 0) R) (as := [.int (I 96 (tkB (I 96) len p) &&& nI 255), .int (nI 48), .int (nI 57)]) (st := []) dM_token_152 ml12_102 rfl (Nat.le_of_ble_eq_true rfl) (Nat.le_of_ble_eq_true rfl) rfl (Nat.le_refl _) (Nat.le_refl _) c_M_in (m_go ?_)
        show AW _ _ _ _ _ _ _ _ [.int (f_in (I 96 (tkB (I 96) len p) &&& nI 255) (nI 48) (nI 57))] _ _ _ _
        rw [show (f_in (I 96 (tkB (I 96) len p) &&& nI 255) (nI 48) (nI 57)) = (f_in (I 96 (tkB (I 96) len p)) (nI 48) (nI 57)) from (sg_dg hbp)]
        refine a_if_eq (tgt := 241) dM_token_155 (by decide) (fun _ => ?_) (fun c => False.elim (h2 (decide_eq_true c)))
        refine a_aload_n 2 dM_token_241 rfl rfl ?_
        refine a_dup dM_token_242 rfl ?_
        refine a_geti dM_token_243 fl12_110 rfl ly_95 (by omega) ?_
        rw [show (m_row I 95 (va_up (va_up F 9 (nI (tkB (I 96) len p))) 11 (nI (tkB (I 96) len p)))) 95 9 = (nI (tkB (I 96) len p)) from rfl]
        refine a_iconstN (a := 1) dM_token_246 (by decide) ?_
        refine a_iaddN (a := (tkB (I 96) len p)) (b := 1) dM_token_247 ?_
        refine a_puti dM_token_248 fl12_110 rfl ly_95 (by omega) ?_
        rw [show m_up (m_row I 95 (va_up (va_up F 9 (nI (tkB (I 96) len p))) 11 (nI (tkB (I 96) len p)))) 95 9 (nI ((tkB (I 96) len p) + 1)) = (m_row I 95 (va_up (va_up F 9 (nI ((tkB (I 96) len p) + 1))) 11 (nI (tkB (I 96) len p)))) from (by rw [m_up_r, show va_up (va_up (va_up F 9 (nI (tkB (I 96) len p))) 11 (nI (tkB (I 96) len p))) 9 (nI ((tkB (I 96) len p) + 1)) = (va_up (va_up F 9 (nI ((tkB (I 96) len p) + 1))) 11 (nI (tkB (I 96) len p))) from ((va_uc (by decide)).trans (congrArg (fun g => va_up g 11 (nI (tkB (I 96) len p))) va_uu))])]
        refine a_aload_n 2 dM_token_251 rfl rfl ?_
        refine a_iload_n 1 dM_token_252 rfl rfl ?_
        refine a_bipushN (a := 59) dM_token_253 (by decide) ?_
        refine a_icmp_ne (tgt := 262) dM_token_255 (by decide) (fun c255 => ?_) (fun c255 => ?_)
        · refine a_iconstN (a := 1) dM_token_262 (by decide) ?_
          refine a_puti dM_token_263 fl12_127 rfl ly_95 (by omega) ?_
          rw [show m_up (m_row I 95 (va_up (va_up F 9 (nI ((tkB (I 96) len p) + 1))) 11 (nI (tkB (I 96) len p)))) 95 12 (nI 1) = (m_row I 95 (va_up (va_up (va_up F 9 (nI ((tkB (I 96) len p) + 1))) 11 (nI (tkB (I 96) len p))) 12 (nI 1))) from (by rw [m_up_r])]
          exact a_vret dM_token_266 rfl ⟨rfl, by unfold tkG; rw [show tkS (I 96) len p = 4 from ((if_neg h0).trans (if_neg h1)).trans ((if_neg h2).trans (if_neg (fun q => c255 ((sg_59 hbp).mpr q)))), show tkE (I 96) len p = (tkB (I 96) len p) + 1 from ((if_neg h0).trans (if_neg h1)).trans (if_neg h2), show tkV (I 96) len p (F 13) = F 13 from ((if_neg h0).trans (if_neg h1)).trans (if_neg h2)]; exact congrArg (m_row I 95) (va_ui2 rfl).symm, by rw [show tkW (I 96) len p = 0 from (if_neg h0).trans (if_neg h1)], rfl⟩
        · refine a_iconstN (a := 4) dM_token_258 (by decide) ?_
          refine a_goto (tgt := 263) dM_token_259 (by decide) ?_
          refine a_puti dM_token_263 fl12_127 rfl ly_95 (by omega) ?_
          rw [show m_up (m_row I 95 (va_up (va_up F 9 (nI ((tkB (I 96) len p) + 1))) 11 (nI (tkB (I 96) len p)))) 95 12 (nI 4) = (m_row I 95 (va_up (va_up (va_up F 9 (nI ((tkB (I 96) len p) + 1))) 11 (nI (tkB (I 96) len p))) 12 (nI 4))) from (by rw [m_up_r])]
          exact a_vret dM_token_266 rfl ⟨rfl, by unfold tkG; rw [show tkS (I 96) len p = 3 from ((if_neg h0).trans (if_neg h1)).trans ((if_neg h2).trans (if_pos ((sg_59 hbp).mp c255))), show tkE (I 96) len p = (tkB (I 96) len p) + 1 from ((if_neg h0).trans (if_neg h1)).trans (if_neg h2), show tkV (I 96) len p (F 13) = F 13 from ((if_neg h0).trans (if_neg h1)).trans (if_neg h2)]; exact congrArg (m_row I 95) (va_ui2 rfl).symm, by rw [show tkW (I 96) len p = 0 from (if_neg h0).trans (if_neg h1)], rfl⟩
