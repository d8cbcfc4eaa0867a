def RK (o : Nat) (R R' : mR) : Prop := R' = R ∨ R' = m_up R 88 0 (some o)
theorem RK.fin {o : Nat} {R R' : mR} (h : RK o R R') (hR : m_fin R) : m_fin R' := by rcases h with rfl | rfl; exact hR; exact fin_88 hR
theorem RK.off {o : Nat} {R R' : mR} (h : RK o R R') (ho : o ∈ m_offs) (hr : offR R o) : offR R' o := by rcases h with rfl | rfl; exact hr; exact offR_88 ho hr
theorem RK.lg {o g : Nat} {R R' : mR} (h : RK o R R') (hg : g ∈ m_lgs) (hr : lgR R g) : lgR R' g := by rcases h with rfl | rfl; exact hr; exact lgR_88 hg hr
theorem RK.up {o : Nat} {R R' : mR} (h : RK o R R') : m_up R' 88 0 (some o) = m_up R 88 0 (some o) := by rcases h with rfl | rfl; rfl; exact m_up_up
theorem ft_t {I : mI} {o g c nh nl sp : Nat} (h1 : mayP I o nh nl sp) (h2 : agP I o g c nh nl sp) : ftL I o g c nh nl (sp + 1) = ftL I o g c nh nl sp ++ [sp] := by
  show (if ftP I o g c nh nl sp = true then _ else _) = _
  rw [if_pos (show ftP I o g c nh nl sp = true from decide_eq_true ⟨h1, h2⟩)]
theorem ft_f {I : mI} {o g c nh nl sp : Nat} (h : ¬ (mayP I o nh nl sp ∧ agP I o g c nh nl sp)) : ftL I o g c nh nl (sp + 1) = ftL I o g c nh nl sp := by
  show (if ftP I o g c nh nl sp = true then _ else _) = _
  rw [if_neg (show ¬ ftP I o g c nh nl sp = true from fun q => h (of_decide_eq_true q))]
theorem ft_n {I : mI} {o g c nh nl sp : Nat} (h : ¬ mayP I o nh nl sp) : ftP I o g c nh nl sp = false := decide_eq_false (fun q => h q.1)
theorem g8_o {I : mI} {F C M X md ls cm : Nat → Int32} {o k : Nat} (ho : o ∈ m_offs) (hk : k < 9) : g8 I F C M X md ls cm (o + k) = I (o + k) := by
  unfold g8; rw [off_row ho (by decide) hk, off_row ho (by decide) hk, off_row ho (by decide) hk, off_row ho (by decide) hk, off_row ho (by decide) hk, off_row ho (by decide) hk, off_row ho (by decide) hk]
theorem l_find1 {S : Nat × (Nat → Int32)} {d n : Nat} {I : mI} {J : mJ} {R : mR} (hn : 122 ≤ n) (hR : m_fin R) {o nh nl : Nat} (ho : o ∈ m_offs) (hr : offR R o) (hon : o + 8 < n) (hh : I o 0 = nI nh) (hnh : nh ≤ 6) (hl : I o 1 = nI nl) (hnl : nl ≤ 10) (hW : WFc I o nl) (hH : WFh (I (o + 2)) nl) {g c : Nat} (hg : g ∈ m_lgs) (hgr : lgR R g) (hgn : g + 2 < n) (hcc : I g 0 = nI c) (hc8 : c ≤ 8) (hF : ∀ k, k < c → I (g + 1) k = nI (hmN (I (g + 1)) k) ∧ hmN (I (g + 1)) k < 6) {F : Nat → Int32} {a : Nat} (ha : a < nh) {Q : Option Value → mI → mJ → mR → Prop} (hx : ∀ (R' : mR) (C M X md ls cm : Nat → Int32), RK o R R' → RL I o nl C M (ftL I o g c nh nl (10 * a + nl)) → AW S (d + 3) YSlips_find n n Q 65 [(4, .int (nI nl)), (0, .ref 85), (1, .ref o), (2, .ref g), (3, .int (nI a))] [] (g8 I (va_up F 0 (nI (ftL I o g c nh nl (10 * a + nl)).length)) C M X md ls cm) J R' n) : ∀ m b, b + m = nl → ∀ (R' : mR) (C M X md ls cm : Nat → Int32), RK o R R' → RL I o nl C M (ftL I o g c nh nl (10 * a + b)) → AW S (d + 3) YSlips_find n n Q 26 [(4, .int (nI b)), (0, .ref 85), (1, .ref o), (2, .ref g), (3, .int (nI a))] [] (g8 I (va_up F 0 (nI (ftL I o g c nh nl (10 * a + b)).length)) C M X md ls cm) J R' n := by
  intro m
  induction m with
  | zero =>
    intro b hb R' C M X md ls cm hK hRL
    rw [show b = nl by omega] at hRL ⊢
    have hRk := hK.fin hR
    have hrk := hK.off ho hr
    refine a_iload 0 dSlips_find_26 rfl ?_
    refine a_aload_n 2 dSlips_find_28 rfl rfl ?_
    refine a_geti dSlips_find_29 fl8_35 rfl (of_l0 ho) (by omega) ?_
    rw [show (g8 I (va_up F 0 (nI (ftL I o g c nh nl (10 * a + nl)).length)) C M X md ls cm) o 1 = (nI nl) from ((congrFun (g8_o (k := 0) ho (by decide)) _).trans hl)]
    refine a_icmp_geN (tgt := 65) dSlips_find_32 (by decide) (by omega) (by omega) (fun _ => ?_) (fun c => False.elim (by omega))
    exact hx R' C M X md ls cm hK hRL
  | succ m ih =>
    intro b hb R' C M X md ls cm hK hRL
    have hRk := hK.fin hR
    have hrk := hK.off ho hr
    have hgk := hK.lg hg hgr
    have hhm := hH.hm (l := b) (by omega)
    have hlen : (ftL I o g c nh nl (10 * a + b)).length ≤ 10 * a + b := fitL_len _
    have ed : (10 * a + b) / 10 = a := by omega
    have em : (10 * a + b) % 10 = b := by omega
    refine a_iload 0 dSlips_find_26 rfl ?_
    refine a_aload_n 2 dSlips_find_28 rfl rfl ?_
    refine a_geti dSlips_find_29 fl8_35 rfl (of_l0 ho) (by omega) ?_
    rw [show (g8 I (va_up F 0 (nI (ftL I o g c nh nl (10 * a + b)).length)) C M X md ls cm) o 1 = (nI nl) from ((congrFun (g8_o (k := 0) ho (by decide)) _).trans hl)]
    refine a_icmp_geN (tgt := 65) dSlips_find_32 (by decide) (by omega) (by omega) (fun c => False.elim (by omega)) (fun _ => ?_)
    refine a_aload_n 2 dSlips_find_35 rfl rfl ?_
    refine a_geta (r := (o + 2)) dSlips_find_36 fl8_38 rfl (of_l0 ho) (by omega) (hrk 1 (by decide)) ?_
    refine a_iload 0 dSlips_find_39 rfl ?_
    refine a_ialdN (a := b) dSlips_find_41 (of_l2 ho) (by omega) (by omega) (by decide) ?_
    rw [show (g8 I (va_up F 0 (nI (ftL I o g c nh nl (10 * a + b)).length)) C M X md ls cm) (o + 2) b = I (o + 2) b from (congrFun (g8_o ho (by decide)) _)]
    refine a_iload_n 4 dSlips_find_42 rfl rfl ?_
    refine a_icmp_eq (tgt := 59) dSlips_find_43 (by decide) (fun c43 => ?_) (fun c43 => ?_)
    · refine a_iincN (lv' := [(4, .int (nI (b + 1))), (0, .ref 85), (1, .ref o), (2, .ref g), (3, .int (nI a))]) (j := 0) dSlips_find_59 rfl (by decide) rfl ?_
      refine a_goto (tgt := 26) dSlips_find_62 (by decide) ?_
      refine a_locs (lv' := [(4, .int (nI (b + 1))), (0, .ref 85), (1, .ref o), (2, .ref g), (3, .int (nI a))]) [0, 1, 2, 3, 4] rfl ?_
      have en : (ftL I o g c nh nl (10 * a + (b + 1))) = (ftL I o g c nh nl (10 * a + b)) := by rw [show 10 * a + (b + 1) = 10 * a + b + 1 by omega]; exact ft_f (fun q => by rcases q.1 with h | h; omega; exact h.2.2 (by rw [ed, em]; exact (nI_eq (by omega) (by omega)).mp (hhm.1.symm.trans c43)))
      have hi := ih (b + 1) (by omega) R' C M X md ls cm hK (by rw [en]; exact hRL)
      rw [en] at hi
      exact hi
    · refine a_aload_n 1 dSlips_find_46 rfl rfl ?_
      refine a_aload_n 2 dSlips_find_47 rfl rfl ?_
      refine a_aload_n 3 dSlips_find_48 rfl rfl ?_
      refine a_bipushN (a := 10) dSlips_find_49 (by decide) ?_
      refine a_iload_n 4 dSlips_find_51 rfl rfl ?_
      refine a_imulN (a := 10) (b := a) dSlips_find_52 ?_
      refine a_iload 0 dSlips_find_53 rfl ?_
      refine a_iaddN (a := (10 * a)) (b := b) dSlips_find_55 ?_
      have hmy : mayP I o nh nl (10 * a + b) := Or.inr ⟨by omega, by omega, by rw [ed, em]; intro q9; exact c43 (by rw [hhm.1, q9])⟩
      refine a_callV (Q' := fun v I2 J2 R2 => v = none ∧ J2 = J ∧ R2 = (m_up R 88 0 (some o)) ∧ ∃ C2 M2 X2 md2 ls2 cm2, RL I o nl C2 M2 (ftL I o g c nh nl (10 * a + (b + 1))) ∧ I2 = g8 I (va_up F 0 (nI (ftL I o g c nh nl (10 * a + (b + 1))).length)) C2 M2 X2 md2 ls2 cm2) (as := [.ref o, .ref g, .int (nI (10 * a + b))]) (st := []) dSlips_find_56 ml8_41 rfl (Nat.le_of_ble_eq_true rfl) ly_85 rfl rfl (by decide) (by omega) (Nat.le_of_ble_eq_true rfl) rfl (Nat.le_refl _) (Nat.le_refl _) (b_tryOut (S := S) (d := d) (R := R') (I := I) (F := F) (C := C) (M := M) (sp := (10 * a + b)) (fo := (ftL I o g c nh nl (10 * a + b)).length) hn hRk ho hrk hon hh hnh hl hnl hW hH hg hgk hgn hcc hc8 hF (by omega) (by omega) (fun X' md' ls' cm' h1 h2 => ⟨rfl, rfl, hK.up, _, _, X', md', ls', cm', by rw [show 10 * a + (b + 1) = 10 * a + b + 1 by omega, ft_t hmy h1]; exact RL_app hRL h2, by rw [show 10 * a + (b + 1) = 10 * a + b + 1 by omega, ft_t hmy h1, List.length_append]; rfl⟩) (fun h1 X' md' ls' cm' => ⟨rfl, rfl, hK.up, C, M, X', md', ls', cm', by rw [show 10 * a + (b + 1) = 10 * a + b + 1 by omega, ft_f (fun q => h1 q.2)]; exact hRL, by rw [show 10 * a + (b + 1) = 10 * a + b + 1 by omega, ft_f (fun q => h1 q.2)]⟩)) ?_
      intro v9 I9 J9 R9 ⟨e1, e2, e3, C2, M2, X2, md2, ls2, cm2, e4, e5⟩
      subst e1
      rw [e2, e3, e5]
      show AW _ _ _ _ _ _ _ _ [] _ _ _ _
      refine a_iincN (lv' := [(4, .int (nI (b + 1))), (0, .ref 85), (1, .ref o), (2, .ref g), (3, .int (nI a))]) (j := 0) dSlips_find_59 rfl (by decide) rfl ?_
      refine a_goto (tgt := 26) dSlips_find_62 (by decide) ?_
      refine a_locs (lv' := [(4, .int (nI (b + 1))), (0, .ref 85), (1, .ref o), (2, .ref g), (3, .int (nI a))]) [0, 1, 2, 3, 4] rfl ?_
      exact ih (b + 1) (by omega) (m_up R 88 0 (some o)) C2 M2 X2 md2 ls2 cm2 (Or.inr rfl) e4
theorem l_find2 {S : Nat × (Nat → Int32)} {d n : Nat} {I : mI} {J : mJ} {R : mR} (hn : 122 ≤ n) (hR : m_fin R) {o nh nl : Nat} (ho : o ∈ m_offs) (hr : offR R o) (hon : o + 8 < n) (hh : I o 0 = nI nh) (hnh : nh ≤ 6) (hl : I o 1 = nI nl) (hnl : nl ≤ 10) (hW : WFc I o nl) (hH : WFh (I (o + 2)) nl) {g c : Nat} (hg : g ∈ m_lgs) (hgr : lgR R g) (hgn : g + 2 < n) (hcc : I g 0 = nI c) (hc8 : c ≤ 8) (hF : ∀ k, k < c → I (g + 1) k = nI (hmN (I (g + 1)) k) ∧ hmN (I (g + 1)) k < 6) {F : Nat → Int32} {Q : Option Value → mI → mJ → mR → Prop} (hx : ∀ (R' : mR) (C M X md ls cm : Nat → Int32), RK o R R' → RL I o nl C M (ftL I o g c nh nl (10 * nh)) → AW S (d + 3) YSlips_find n n Q 71 [(3, .int (nI nh)), (0, .ref 85), (1, .ref o), (2, .ref g)] [] (g8 I (va_up F 0 (nI (ftL I o g c nh nl (10 * nh)).length)) C M X md ls cm) J R' n) : ∀ m a, a + m = nh → ∀ (R' : mR) (C M X md ls cm : Nat → Int32), RK o R R' → RL I o nl C M (ftL I o g c nh nl (10 * a)) → AW S (d + 3) YSlips_find n n Q 15 [(3, .int (nI a)), (0, .ref 85), (1, .ref o), (2, .ref g)] [] (g8 I (va_up F 0 (nI (ftL I o g c nh nl (10 * a)).length)) C M X md ls cm) J R' n := by
  intro m
  induction m with
  | zero =>
    intro a ha R' C M X md ls cm hK hRL
    rw [show a = nh by omega] at hRL ⊢
    have hRk := hK.fin hR
    have hrk := hK.off ho hr
    refine a_iload_n 0 dSlips_find_15 rfl rfl ?_
    refine a_aload_n 2 dSlips_find_16 rfl rfl ?_
    refine a_geti dSlips_find_17 fl8_29 rfl (of_l0 ho) (by omega) ?_
    rw [show (g8 I (va_up F 0 (nI (ftL I o g c nh nl (10 * nh)).length)) C M X md ls cm) o 0 = (nI nh) from ((congrFun (g8_o (k := 0) ho (by decide)) _).trans hh)]
    refine a_icmp_geN (tgt := 71) dSlips_find_20 (by decide) (by omega) (by omega) (fun _ => ?_) (fun c => False.elim (by omega))
    exact hx R' C M X md ls cm hK hRL
  | succ m ih =>
    intro a ha R' C M X md ls cm hK hRL
    have hRk := hK.fin hR
    have hrk := hK.off ho hr
    have e10 : (ftL I o g c nh nl (10 * (a + 1))) = (ftL I o g c nh nl (10 * a + nl)) := by
      rw [show 10 * (a + 1) = 10 * a + nl + (10 - nl) by omega]
      exact fitL_skip _ (fun j h1 h2 => ft_n (fun q => by rcases q with h | h; omega; omega))
    refine a_iload_n 0 dSlips_find_15 rfl rfl ?_
    refine a_aload_n 2 dSlips_find_16 rfl rfl ?_
    refine a_geti dSlips_find_17 fl8_29 rfl (of_l0 ho) (by omega) ?_
    rw [show (g8 I (va_up F 0 (nI (ftL I o g c nh nl (10 * a)).length)) C M X md ls cm) o 0 = (nI nh) from ((congrFun (g8_o (k := 0) ho (by decide)) _).trans hh)]
    refine a_icmp_geN (tgt := 71) dSlips_find_20 (by decide) (by omega) (by omega) (fun c => False.elim (by omega)) (fun _ => ?_)
    refine a_iconstN (a := 0) dSlips_find_23 (by decide) ?_
    refine a_istore (lv' := [(4, .int (nI 0)), (3, .int (nI a)), (0, .ref 85), (1, .ref o), (2, .ref g)]) dSlips_find_24 (by decide) rfl ?_
    refine a_locs (lv' := [(4, .int (nI 0)), (0, .ref 85), (1, .ref o), (2, .ref g), (3, .int (nI a))]) [0, 2, 3, 4, 1] rfl ?_
    refine l_find1 hn hR ho hr hon hh hnh hl hnl hW hH hg hgr hgn hcc hc8 hF (a := a) (by omega) (fun R2 C2 M2 X2 md2 ls2 cm2 hK2 hRL2 => ?_) nl 0 (by omega) R' C M X md ls cm hK hRL
    rw [← e10] at hRL2 ⊢
    refine a_iincN (lv' := [(3, .int (nI (a + 1))), (4, .int (nI nl)), (0, .ref 85), (1, .ref o), (2, .ref g)]) (j := 4) dSlips_find_65 rfl (by decide) rfl ?_
    refine a_goto (tgt := 15) dSlips_find_68 (by decide) ?_
    refine a_locs (lv' := [(3, .int (nI (a + 1))), (0, .ref 85), (1, .ref o), (2, .ref g)]) [0, 2, 3, 4] rfl ?_
    exact ih (a + 1) (by omega) R2 C2 M2 X2 md2 ls2 cm2 hK2 hRL2
theorem b_find {S : Nat × (Nat → Int32)} {d n : Nat} {I : mI} {J : mJ} {R : mR} (hn : 122 ≤ n) (hR : m_fin R) {o nh nl : Nat} (ho : o ∈ m_offs) (hr : offR R o) (hon : o + 8 < n) (hh : I o 0 = nI nh) (hnh : nh ≤ 6) (hl : I o 1 = nI nl) (hnl : nl ≤ 10) (hW : WFc I o nl) (hH : WFh (I (o + 2)) nl) {g c : Nat} (hg : g ∈ m_lgs) (hgr : lgR R g) (hgn : g + 2 < n) (hcc : I g 0 = nI c) (hc8 : c ≤ 8) (hF : ∀ k, k < c → I (g + 1) k = nI (hmN (I (g + 1)) k) ∧ hmN (I (g + 1)) k < 6) {Q : Option Value → mI → mJ → mR → Prop} (hQ : ∀ C M X md ls cm, RL I o nl C M (ftL I o g c nh nl 100) → Q none (g8 I (va_up (va_up (va_up (I 85) 0 (nI 0)) 4 (nI nh)) 0 (nI (ftL I o g c nh nl 100).length)) C M X md ls cm) J (m_up R 88 0 (some o))) : AW S (d + 3) YSlips_find n n Q 0 [(0, .ref 85), (1, .ref o), (2, .ref g)] [] I J R n := by
  rw [show AW S (d + 3) YSlips_find n n Q 0 [(0, .ref 85), (1, .ref o), (2, .ref g)] [] I J R n = AW S (d + 3) YSlips_find n n Q 0 [(0, .ref 85), (1, .ref o), (2, .ref g)] [] (m_row (m_row (m_row (m_row (m_row (m_row (m_row I 85 (I 85)) 86 (I 86)) 87 (I 87)) 88 (I 88)) 89 (I 89)) 90 (I 90)) 91 (I 91)) J R n from by rw [show (m_row (m_row (m_row (m_row (m_row (m_row (m_row I 85 (I 85)) 86 (I 86)) 87 (I 87)) 88 (I 88)) 89 (I 89)) 90 (I 90)) 91 (I 91)) = I from g8_self]]
  have e99 : ftL I o g c nh nl 99 = ftL I o g c nh nl (10 * nh) := by
    rw [show 99 = 10 * nh + (99 - 10 * nh) by omega]
    exact fitL_skip _ (fun j h1 h2 => ft_n (fun q => by rcases q with h | h; omega; omega))
  have hm99 : mayP I o nh nl 99 := Or.inl rfl
  refine a_aload_n 0 dSlips_find_0 rfl rfl ?_
  refine a_iconstN (a := 0) dSlips_find_1 (by decide) ?_
  refine a_puti dSlips_find_2 fl8_25 rfl ly_85 (by omega) ?_
  rw [show m_up (m_row (m_row (m_row (m_row (m_row (m_row (m_row I 85 (I 85)) 86 (I 86)) 87 (I 87)) 88 (I 88)) 89 (I 89)) 90 (I 90)) 91 (I 91)) 85 0 (nI 0) = (m_row (m_row (m_row (m_row (m_row (m_row (m_row I 85 (va_up (I 85) 0 (nI 0))) 86 (I 86)) 87 (I 87)) 88 (I 88)) 89 (I 89)) 90 (I 90)) 91 (I 91)) from (by rw [m_up_comm (by decide), m_up_comm (by decide), m_up_comm (by decide), m_up_comm (by decide), m_up_comm (by decide), m_up_comm (by decide), m_up_r])]
  refine a_aload_n 0 dSlips_find_5 rfl rfl ?_
  refine a_aload_n 1 dSlips_find_6 rfl rfl ?_
  refine a_geti dSlips_find_7 fl8_29 rfl (of_l0 ho) (by omega) ?_
  rw [show (m_row (m_row (m_row (m_row (m_row (m_row (m_row I 85 (va_up (I 85) 0 (nI 0))) 86 (I 86)) 87 (I 87)) 88 (I 88)) 89 (I 89)) 90 (I 90)) 91 (I 91)) o 0 = (nI nh) from ((show (m_row (m_row (m_row (m_row (m_row (m_row (m_row I 85 (va_up (I 85) 0 (nI 0))) 86 (I 86)) 87 (I 87)) 88 (I 88)) 89 (I 89)) 90 (I 90)) 91 (I 91)) o 0 = I o 0 by rw [m_row_ne (oc_ne0 ho (by decide)), m_row_ne (oc_ne0 ho (by decide)), m_row_ne (oc_ne0 ho (by decide)), m_row_ne (oc_ne0 ho (by decide)), m_row_ne (oc_ne0 ho (by decide)), m_row_ne (oc_ne0 ho (by decide)), m_row_ne (oc_ne0 ho (by decide))]).trans hh)]
  refine a_puti dSlips_find_10 fl8_34 rfl ly_85 (by omega) ?_
  rw [show m_up (m_row (m_row (m_row (m_row (m_row (m_row (m_row I 85 (va_up (I 85) 0 (nI 0))) 86 (I 86)) 87 (I 87)) 88 (I 88)) 89 (I 89)) 90 (I 90)) 91 (I 91)) 85 4 (nI nh) = (m_row (m_row (m_row (m_row (m_row (m_row (m_row I 85 (va_up (va_up (I 85) 0 (nI 0)) 4 (nI nh))) 86 (I 86)) 87 (I 87)) 88 (I 88)) 89 (I 89)) 90 (I 90)) 91 (I 91)) from (by rw [m_up_comm (by decide), m_up_comm (by decide), m_up_comm (by decide), m_up_comm (by decide), m_up_comm (by decide), m_up_comm (by decide), m_up_r])]
  refine a_iconstN (a := 0) dSlips_find_13 (by decide) ?_
  refine a_istore_n (lv' := [(3, .int (nI 0)), (0, .ref 85), (1, .ref o), (2, .ref g)]) dSlips_find_14 rfl (by decide) rfl ?_
  refine a_locs (lv' := [(3, .int (nI 0)), (0, .ref 85), (1, .ref o), (2, .ref g)]) [0, 1, 2, 3] rfl ?_
  refine a_mem (show (m_row (m_row (m_row (m_row (m_row (m_row (m_row I 85 (va_up (va_up (I 85) 0 (nI 0)) 4 (nI nh))) 86 (I 86)) 87 (I 87)) 88 (I 88)) 89 (I 89)) 90 (I 90)) 91 (I 91)) = g8 I (va_up (va_up (va_up (I 85) 0 (nI 0)) 4 (nI nh)) 0 (nI (ftL I o g c nh nl (10 * 0)).length)) (I 86) (I 87) (I 88) (I 89) (I 90) (I 91) from ?_) ?_
  · show (m_row (m_row (m_row (m_row (m_row (m_row (m_row I 85 (va_up (va_up (I 85) 0 (nI 0)) 4 (nI nh))) 86 (I 86)) 87 (I 87)) 88 (I 88)) 89 (I 89)) 90 (I 90)) 91 (I 91)) = g8 I (va_up (va_up (va_up (I 85) 0 (nI 0)) 4 (nI nh)) 0 (nI 0)) (I 86) (I 87) (I 88) (I 89) (I 90) (I 91)
    rw [show va_up (va_up (va_up (I 85) 0 (nI 0)) 4 (nI nh)) 0 (nI 0) = (va_up (va_up (I 85) 0 (nI 0)) 4 (nI nh)) from (by rw [va_uc (by decide), va_uu])]
  refine l_find2 hn hR ho hr hon hh hnh hl hnl hW hH hg hgr hgn hcc hc8 hF (F := (va_up (va_up (I 85) 0 (nI 0)) 4 (nI nh))) (fun R2 C2 M2 X2 md2 ls2 cm2 hK2 hRL2 => ?_) nh 0 (by omega) R (I 86) (I 87) (I 88) (I 89) (I 90) (I 91) (Or.inl rfl) RL_nil
  have hRk := hK2.fin hR
  have hrk := hK2.off ho hr
  have hgk := hK2.lg hg hgr
  have hlen : (ftL I o g c nh nl (10 * nh)).length ≤ 10 * nh := fitL_len _
  refine a_aload_n 1 dSlips_find_71 rfl rfl ?_
  refine a_aload_n 2 dSlips_find_72 rfl rfl ?_
  refine a_aload_n 3 dSlips_find_73 rfl rfl ?_
  refine a_bipushN (a := 99) dSlips_find_74 (by decide) ?_
  refine a_callV (Q' := fun v I2 J2 R2 => v = none ∧ J2 = J ∧ R2 = (m_up R 88 0 (some o)) ∧ ∃ C2 M2 X2 md2 ls2 cm2, RL I o nl C2 M2 (ftL I o g c nh nl 100) ∧ I2 = g8 I (va_up (va_up (va_up (I 85) 0 (nI 0)) 4 (nI nh)) 0 (nI (ftL I o g c nh nl 100).length)) C2 M2 X2 md2 ls2 cm2) (as := [.ref o, .ref g, .int (nI 99)]) (st := []) dSlips_find_76 ml8_41 rfl (Nat.le_of_ble_eq_true rfl) ly_85 rfl rfl (by decide) (by omega) (Nat.le_of_ble_eq_true rfl) rfl (Nat.le_refl _) (Nat.le_refl _) (b_tryOut (S := S) (d := d) (R := R2) (I := I) (F := (va_up (va_up (I 85) 0 (nI 0)) 4 (nI nh))) (C := C2) (M := M2) (sp := 99) (fo := (ftL I o g c nh nl (10 * nh)).length) hn hRk ho hrk hon hh hnh hl hnl hW hH hg hgk hgn hcc hc8 hF (by omega) (by omega) (fun X' md' ls' cm' h1 h2 => ⟨rfl, rfl, hK2.up, _, _, X', md', ls', cm', by rw [show (100 : Nat) = 99 + 1 from rfl, ft_t hm99 h1, e99]; exact RL_app hRL2 h2, by rw [show (100 : Nat) = 99 + 1 from rfl, ft_t hm99 h1, e99, List.length_append]; rfl⟩) (fun h1 X' md' ls' cm' => ⟨rfl, rfl, hK2.up, C2, M2, X', md', ls', cm', by rw [show (100 : Nat) = 99 + 1 from rfl, ft_f (fun q => h1 q.2), e99]; exact hRL2, by rw [show (100 : Nat) = 99 + 1 from rfl, ft_f (fun q => h1 q.2), e99]⟩)) ?_
  intro v9 I9 J9 R9 ⟨e1, e2, e3, C3, M3, X3, md3, ls3, cm3, e4, e5⟩
  subst e1
  rw [e2, e3, e5]
  show AW _ _ _ _ _ _ _ _ [] _ _ _ _
  exact a_vret dSlips_find_79 rfl (hQ C3 M3 X3 md3 ls3 cm3 e4)
