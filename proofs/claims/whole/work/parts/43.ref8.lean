theorem nI_le0 {a : Nat} (h : a < 2 ^ 31) (c : nI a ≤ 0) : a = 0 := by
  have := (nI_leI (b := 0) h (by decide)).mp c
  omega
/-- the next seed, and the number that it gives -/
def nxS (s : Int32) : Int32 := s * 1103515245 + nI 12345
def sdN (s : Int32) : Nat := s.toUInt32.toNat / 65536
theorem sdN_lt (s : Int32) : sdN s < 65536 := by
  unfold sdN
  have := s.toUInt32.toNat_lt
  omega
theorem ushr16 (s : Int32) : (s.toUInt32 >>> (Int32.toUInt32 (nI 16) &&& Int32.toUInt32 31)).toInt32 = nI (sdN s) := by
  have e : (Int32.toUInt32 (nI 16) &&& Int32.toUInt32 31) = (16 : UInt32) := by decide
  rw [e]
  have h : s.toUInt32 >>> (16 : UInt32) = UInt32.ofNat (sdN s) := by
    apply UInt32.toNat_inj.mp
    rw [UInt32.toNat_shiftRight, UInt32.toNat_ofNat_of_lt' (by have := sdN_lt s; show sdN s < 2 ^ 32; omega)]
    show s.toUInt32.toNat >>> 16 = sdN s
    rw [Nat.shiftRight_eq_div_pow]
    rfl
  rw [h]
  rfl
abbrev sdI (I : mI) (x : Int32) : mI := m_up I 95 51 x
theorem sdI_sdI {I : mI} {x y : Int32} : m_up (sdI I x) 95 51 y = sdI I y := by
  funext i
  by_cases h : i = 95
  · subst h
    funext k
    by_cases hk : k = 51
    · subst hk; simp [sdI, m_up, va_up]
    · simp [sdI, m_up, va_up, hk]
  · simp [sdI, m_up, h]
theorem crR_51 {I : mI} {md ls cm : Nat → Int32} {ni le sl dn fa id0 x y : Int32} : m_up (crR (sdI I y) md ls cm ni le sl dn fa id0) 95 51 x = crR (sdI I x) md ls cm ni le sl dn fa id0 := by
  unfold crR
  rw [m_up_comm (by decide), m_up_comm (by decide), m_up_comm (by decide), m_up_r]
  congr 3
  funext i
  by_cases h : i = 95
  · subst h
    rw [m_row_eq, m_row_eq]
    funext k
    unfold va_up cfR
    by_cases hk : k = 51
    · subst hk; rfl
    · rw [if_neg hk]
      have e : sdI I y 95 k = sdI I x 95 k := (m_up_off hk).trans (m_up_off hk).symm
      rw [e]
  · rw [m_row_ne h, m_row_ne h]; exact (m_up_ne h).trans (m_up_ne h).symm
theorem c_M_draw {S : Nat × (Nat → Int32)} {d n : Nat} {I : mI} {J : mJ} {R : mR} {md ls cm : Nat → Int32} {ni le sl dn fa id0 : Int32} {sd : Int32} {m : Nat} (hn : 122 ≤ n) (hR : m_fin R) (hm : 0 < m) (hm2 : m < 2 ^ 31) : RUN S d YM_draw [.ref 95, .int (nI m)] (crR (sdI I sd) md ls cm ni le sl dn fa id0) J R n (some (.int (nI (sdN (nxS sd) % m)))) (crR (sdI I (nxS sd)) md ls cm ni le sl dn fa id0) J R n := by
  have hs := sdN_lt (nxS sd)
  show AW S _ YM_draw n n _ 0 [(0, .ref 95), (1, .int (nI m))] [] (crR (sdI I sd) md ls cm ni le sl dn fa id0) J R n
  refine a_aload_n 0 dM_draw_0 rfl rfl ?_
  refine a_aload_n 0 dM_draw_1 rfl rfl ?_
  refine a_geti dM_draw_2 fl12_466 rfl ly_95 (by omega) ?_
  rw [show (crR (sdI I sd) md ls cm ni le sl dn fa id0) 95 51 = sd from (by rw [crR_f (by decide)]; exact m_up_at)]
  refine a_ldcw (v := 1103515245) dM_draw_5 cn12_469 ?_
  refine a_imul dM_draw_8 ?_
  refine a_sipushN (a := 12345) dM_draw_9 (by decide) ?_
  refine a_iadd dM_draw_12 ?_
  refine a_puti dM_draw_13 fl12_466 rfl ly_95 (by omega) ?_
  rw [crR_51]
  refine a_aload_n 0 dM_draw_16 rfl rfl ?_
  refine a_geti dM_draw_17 fl12_466 rfl ly_95 (by omega) ?_
  rw [show (crR (sdI I ((sd * 1103515245) + (nI 12345))) md ls cm ni le sl dn fa id0) 95 51 = ((sd * 1103515245) + (nI 12345)) from (by rw [crR_f (by decide)]; exact m_up_at)]
  refine a_bipushN (a := 16) dM_draw_20 (by decide) ?_
  refine a_iushr dM_draw_22 ?_
  rw [show (sd * 1103515245 + nI 12345) = nxS sd from rfl, ushr16]
  refine a_iload_n 1 dM_draw_23 rfl rfl ?_
  refine a_iremN dM_draw_24 (by omega) (by omega) (by omega) ?_
  exact a_iret dM_draw_25 rfl ⟨rfl, rfl, rfl, rfl⟩
/-- a deed drawn by the seed -/
def drF (nh nl : Nat) (doit : cS → Nat → Int32 → Int32 → Option cS) (sd : Int32) (s : cS) : Int32 × cS :=
  if sdN (nxS sd) % 8 = 7 then (nxS sd, (doit s 3 (-1) (-1)).getD s)
  else if nl = 0 then (nxS sd, s)
  else if sdN (nxS sd) % 8 = 4 ∨ sdN (nxS sd) % 8 = 5 then (nxS (nxS (nxS sd)), (doit s 1 (nI (sdN (nxS (nxS sd)) % nl)) (nI (sdN (nxS (nxS (nxS sd))) % nh))).getD s)
  else (nxS (nxS sd), (doit s (if sdN (nxS sd) % 8 = 6 then 2 else 0) (nI (sdN (nxS (nxS sd)) % nl)) (-1)).getD s)
abbrev doR (I : mI) (ko nh nl : Nat) (s : cS) (u : Nat) (l h : Int32) : Option cS := doF nh nl (I 106) (dsR I ko) (bsR I ko) (fun l => oR I ko (19 + l)) 6 s u l h
theorem sd_dsR {I : mI} {x : Int32} {ko : Nat} : dsR (sdI I x) ko = dsR I ko := rfl
theorem sd_bsR {I : mI} {x : Int32} {ko : Nat} : bsR (sdI I x) ko = bsR I ko := rfl
theorem sd_oR {I : mI} {x : Int32} {ko : Nat} : oR (sdI I x) ko = oR I ko := rfl
theorem sd_106 {I : mI} {x : Int32} : sdI I x 106 = I 106 := rfl
theorem c_M_doesS {S : Nat × (Nat → Int32)} {d n : Nat} {I : mI} {J : mJ} {R : mR} {s : cS} {sd : Int32} {ko nh nl : Nat} (hn : 122 ≤ n) (hR : m_fin R) (ho : I 95 23 = nI ko) (hk : ko < 7) (hh : I 95 24 = nI nh) (hnh : nh ≤ 6) (hl : I 95 25 = nI nl) (hnl : nl ≤ 10) (hW : WFk I ko) {u : Nat} {x y : Int32} (hu : u < 4) (hH : WFh (I 106) nl) (hL : WFl s.2.1) : RUN S (d + 6) YM_does [.ref 95, .int (nI u), .int x, .int y] (crT (sdI I sd) s) J R n (some (.int (if doR I ko nh nl s u x y = none then 0 else 1))) (crT (sdI I sd) ((doR I ko nh nl s u x y).getD s)) J R n := by
  have h := c_M_doesG (S := S) (d := d) (I := sdI I sd) (J := J) (R := R) (s := s) (ko := ko) (nh := nh) (nl := nl) (x := x) (y := y) hn hR ho hk hh hnh hl hnl hW hu hH hL
  rw [sd_dsR, sd_bsR, sd_oR, sd_106] at h
  exact h
theorem c_M_drawDeed {S : Nat × (Nat → Int32)} {d n : Nat} {I : mI} {J : mJ} {R : mR} {ko nh nl : Nat} (hn : 122 ≤ n) (hR : m_fin R) (ho : I 95 23 = nI ko) (hk : ko < 7) (hh : I 95 24 = nI nh) (hnh : nh ≤ 6) (hl : I 95 25 = nI nl) (hnl : nl ≤ 10) (hW : WFk I ko) {sd : Int32} {s : cS} (hnh1 : 1 ≤ nh) (hH : WFh (I 106) nl) (hL : WFl s.2.1) : RUN S (d + 7) YM_drawDeed [.ref 95] (crT (sdI I sd) s) J R n none (crT (sdI I (drF nh nl (doR I ko nh nl) sd s).1) (drF nh nl (doR I ko nh nl) sd s).2) J R n := by
  have hs1 := sdN_lt (nxS sd)
  have hs2 := sdN_lt (nxS (nxS sd))
  have hs3 := sdN_lt (nxS (nxS (nxS sd)))
  show AW S _ YM_drawDeed n n _ 0 [(0, .ref 95)] [] (crR (sdI I sd) s.1 s.2.1 s.2.2.1 s.2.2.2.1 s.2.2.2.2.1 s.2.2.2.2.2.1 s.2.2.2.2.2.2.1 s.2.2.2.2.2.2.2.1 s.2.2.2.2.2.2.2.2) J R n
  refine a_aload_n 0 dM_drawDeed_0 rfl rfl ?_
  refine a_bipushN (a := 8) dM_drawDeed_1 (by decide) ?_
  refine a_callV (Q' := m_res (some (.int (nI (sdN (nxS sd) % 8)))) (crR (sdI I (nxS sd)) s.1 s.2.1 s.2.2.1 s.2.2.2.1 s.2.2.2.2.1 s.2.2.2.2.2.1 s.2.2.2.2.2.2.1 s.2.2.2.2.2.2.2.1 s.2.2.2.2.2.2.2.2) J R) (as := [.int (nI 8)]) (st := []) dM_drawDeed_3 ml12_470 rfl (Nat.le_of_ble_eq_true rfl) ly_95 rfl rfl (by decide) (by omega) (Nat.le_of_ble_eq_true rfl) rfl (Nat.le_refl _) (Nat.le_refl _) (c_M_draw (m := 8) hn hR (by omega) (by omega)) (m_go ?_)
  show AW _ _ _ _ _ _ _ _ [.int (nI (sdN (nxS sd) % 8))] _ _ _ _
  refine a_istore_n (lv' := [(1, .int (nI (sdN (nxS sd) % 8))), (0, .ref 95)]) dM_drawDeed_6 rfl (by decide) rfl ?_
  refine a_iload_n 0 dM_drawDeed_7 rfl rfl ?_
  refine a_bipushN (a := 7) dM_drawDeed_8 (by decide) ?_
  refine a_icmp_neN (tgt := 24) dM_drawDeed_10 (by decide) (by omega) (by omega) (fun c10 => ?_) (fun c10 => ?_)
  · refine a_aload_n 1 dM_drawDeed_24 rfl rfl ?_
    refine a_geti dM_drawDeed_25 fl12_262 rfl ly_95 (by omega) ?_
    rw [show (crR (sdI I (nxS sd)) s.1 s.2.1 s.2.2.1 s.2.2.2.1 s.2.2.2.2.1 s.2.2.2.2.2.1 s.2.2.2.2.2.2.1 s.2.2.2.2.2.2.2.1 s.2.2.2.2.2.2.2.2) 95 25 = (nI nl) from (by rw [crR_f (by decide)]; exact hl)]
    refine a_if_le (tgt := 86) dM_drawDeed_28 (by decide) (fun c28 => ?_) (fun c28 => ?_)
    · exact a_vret dM_drawDeed_86 rfl ⟨rfl, by unfold drF; rw [if_neg (show ¬ sdN (nxS sd) % 8 = 7 by omega), if_pos (show nl = 0 from nI_le0 (by omega) c28)], rfl, rfl⟩
    · refine a_aload_n 1 dM_drawDeed_31 rfl rfl ?_
      refine a_aload_n 1 dM_drawDeed_32 rfl rfl ?_
      refine a_geti dM_drawDeed_33 fl12_262 rfl ly_95 (by omega) ?_
      rw [show (crR (sdI I (nxS sd)) s.1 s.2.1 s.2.2.1 s.2.2.2.1 s.2.2.2.2.1 s.2.2.2.2.2.1 s.2.2.2.2.2.2.1 s.2.2.2.2.2.2.2.1 s.2.2.2.2.2.2.2.2) 95 25 = (nI nl) from (by rw [crR_f (by decide)]; exact hl)]
      refine a_callV (Q' := m_res (some (.int (nI (sdN (nxS (nxS sd)) % nl)))) (crR (sdI I (nxS (nxS sd))) s.1 s.2.1 s.2.2.1 s.2.2.2.1 s.2.2.2.2.1 s.2.2.2.2.2.1 s.2.2.2.2.2.2.1 s.2.2.2.2.2.2.2.1 s.2.2.2.2.2.2.2.2) J R) (as := [.int (nI nl)]) (st := []) dM_drawDeed_36 ml12_470 rfl (Nat.le_of_ble_eq_true rfl) ly_95 rfl rfl (by decide) (by omega) (Nat.le_of_ble_eq_true rfl) rfl (Nat.le_refl _) (Nat.le_refl _) (c_M_draw (m := nl) hn hR (Nat.pos_of_ne_zero (fun q => c28 (by rw [q]; decide))) (by omega)) (m_go ?_)
      show AW _ _ _ _ _ _ _ _ [.int (nI (sdN (nxS (nxS sd)) % nl))] _ _ _ _
      refine a_istore_n (lv' := [(2, .int (nI (sdN (nxS (nxS sd)) % nl))), (1, .int (nI (sdN (nxS sd) % 8))), (0, .ref 95)]) dM_drawDeed_39 rfl (by decide) rfl ?_
      refine a_iload_n 1 dM_drawDeed_40 rfl rfl ?_
      refine a_iconstN (a := 4) dM_drawDeed_41 (by decide) ?_
      refine a_icmp_eqN (tgt := 50) dM_drawDeed_42 (by decide) (by omega) (by omega) (fun c42 => ?_) (fun c42 => ?_)
      · refine a_aload_n 2 dM_drawDeed_50 rfl rfl ?_
        refine a_iconstN (a := 1) dM_drawDeed_51 (by decide) ?_
        refine a_iload_n 0 dM_drawDeed_52 rfl rfl ?_
        refine a_aload_n 2 dM_drawDeed_53 rfl rfl ?_
        refine a_aload_n 2 dM_drawDeed_54 rfl rfl ?_
        refine a_geti dM_drawDeed_55 fl12_259 rfl ly_95 (by omega) ?_
        rw [show (crR (sdI I (nxS (nxS sd))) s.1 s.2.1 s.2.2.1 s.2.2.2.1 s.2.2.2.2.1 s.2.2.2.2.2.1 s.2.2.2.2.2.2.1 s.2.2.2.2.2.2.2.1 s.2.2.2.2.2.2.2.2) 95 24 = (nI nh) from (by rw [crR_f (by decide)]; exact hh)]
        refine a_callV (Q' := m_res (some (.int (nI (sdN (nxS (nxS (nxS sd))) % nh)))) (crR (sdI I (nxS (nxS (nxS sd)))) s.1 s.2.1 s.2.2.1 s.2.2.2.1 s.2.2.2.2.1 s.2.2.2.2.2.1 s.2.2.2.2.2.2.1 s.2.2.2.2.2.2.2.1 s.2.2.2.2.2.2.2.2) J R) (as := [.int (nI nh)]) (st := [.int (nI (sdN (nxS (nxS sd)) % nl)), .int (nI 1), .ref 95]) dM_drawDeed_58 ml12_470 rfl (Nat.le_of_ble_eq_true rfl) ly_95 rfl rfl (by decide) (by omega) (Nat.le_of_ble_eq_true rfl) rfl (Nat.le_refl _) (Nat.le_refl _) (c_M_draw (m := nh) hn hR (by omega) (by omega)) (m_go ?_)
        show AW _ _ _ _ _ _ _ _ [.int (nI (sdN (nxS (nxS (nxS sd))) % nh)), .int (nI (sdN (nxS (nxS sd)) % nl)), .int (nI 1), .ref 95] _ _ _ _
        refine a_callV (Q' := m_res (some (.int (if (doR I ko nh nl s 1 (nI (sdN (nxS (nxS sd)) % nl)) (nI (sdN (nxS (nxS (nxS sd))) % nh))) = none then 0 else 1))) (crT (sdI I (nxS (nxS (nxS sd)))) ((doR I ko nh nl s 1 (nI (sdN (nxS (nxS sd)) % nl)) (nI (sdN (nxS (nxS (nxS sd))) % nh))).getD s)) J R) (as := [.int (nI 1), .int (nI (sdN (nxS (nxS sd)) % nl)), .int (nI (sdN (nxS (nxS (nxS sd))) % nh))]) (st := []) dM_drawDeed_61 ml12_328 rfl (Nat.le_of_ble_eq_true rfl) ly_95 rfl rfl (by decide) (by omega) (Nat.le_of_ble_eq_true rfl) rfl (Nat.le_refl _) (Nat.le_refl _) (c_M_doesS (s := s) (sd := (nxS (nxS (nxS sd)))) hn hR ho hk hh hnh hl hnl hW (by omega) hH hL) (m_go ?_)
        show AW _ _ _ _ _ _ _ _ [.int (if (doR I ko nh nl s 1 (nI (sdN (nxS (nxS sd)) % nl)) (nI (sdN (nxS (nxS (nxS sd))) % nh))) = none then 0 else 1)] _ _ _ _
        refine a_pop dM_drawDeed_64 rfl ?_
        refine a_goto (tgt := 86) dM_drawDeed_65 (by decide) ?_
        exact a_vret dM_drawDeed_86 rfl ⟨rfl, by unfold drF; rw [if_neg (show ¬ sdN (nxS sd) % 8 = 7 by omega), if_neg (show ¬ nl = 0 from fun q => c28 (by rw [q]; decide)), if_pos (show sdN (nxS sd) % 8 = 4 ∨ sdN (nxS sd) % 8 = 5 by omega)], rfl, rfl⟩
      · refine a_iload_n 1 dM_drawDeed_45 rfl rfl ?_
        refine a_iconstN (a := 5) dM_drawDeed_46 (by decide) ?_
        refine a_icmp_neN (tgt := 68) dM_drawDeed_47 (by decide) (by omega) (by omega) (fun c47 => ?_) (fun c47 => ?_)
        · refine a_aload_n 2 dM_drawDeed_68 rfl rfl ?_
          refine a_iload_n 1 dM_drawDeed_69 rfl rfl ?_
          refine a_bipushN (a := 6) dM_drawDeed_70 (by decide) ?_
          refine a_icmp_neN (tgt := 79) dM_drawDeed_72 (by decide) (by omega) (by omega) (fun c72 => ?_) (fun c72 => ?_)
          · refine a_iconstN (a := 0) dM_drawDeed_79 (by decide) ?_
            refine a_iload_n 0 dM_drawDeed_80 rfl rfl ?_
            refine a_iconst (v := -1) dM_drawDeed_81 (by decide) ?_
            refine a_callV (Q' := m_res (some (.int (if (doR I ko nh nl s 0 (nI (sdN (nxS (nxS sd)) % nl)) (-1)) = none then 0 else 1))) (crT (sdI I (nxS (nxS sd))) ((doR I ko nh nl s 0 (nI (sdN (nxS (nxS sd)) % nl)) (-1)).getD s)) J R) (as := [.int (nI 0), .int (nI (sdN (nxS (nxS sd)) % nl)), .int (-1)]) (st := []) dM_drawDeed_82 ml12_328 rfl (Nat.le_of_ble_eq_true rfl) ly_95 rfl rfl (by decide) (by omega) (Nat.le_of_ble_eq_true rfl) rfl (Nat.le_refl _) (Nat.le_refl _) (c_M_doesS (s := s) (sd := (nxS (nxS sd))) hn hR ho hk hh hnh hl hnl hW (by omega) hH hL) (m_go ?_)
            show AW _ _ _ _ _ _ _ _ [.int (if (doR I ko nh nl s 0 (nI (sdN (nxS (nxS sd)) % nl)) (-1)) = none then 0 else 1)] _ _ _ _
            refine a_pop dM_drawDeed_85 rfl ?_
            exact a_vret dM_drawDeed_86 rfl ⟨rfl, by unfold drF; rw [if_neg (show ¬ sdN (nxS sd) % 8 = 7 by omega), if_neg (show ¬ nl = 0 from fun q => c28 (by rw [q]; decide)), if_neg (show ¬ (sdN (nxS sd) % 8 = 4 ∨ sdN (nxS sd) % 8 = 5) by omega), if_neg (show ¬ sdN (nxS sd) % 8 = 6 by omega)], rfl, rfl⟩
          · refine a_iconstN (a := 2) dM_drawDeed_75 (by decide) ?_
            refine a_goto (tgt := 80) dM_drawDeed_76 (by decide) ?_
            refine a_iload_n 0 dM_drawDeed_80 rfl rfl ?_
            refine a_iconst (v := -1) dM_drawDeed_81 (by decide) ?_
            refine a_callV (Q' := m_res (some (.int (if (doR I ko nh nl s 2 (nI (sdN (nxS (nxS sd)) % nl)) (-1)) = none then 0 else 1))) (crT (sdI I (nxS (nxS sd))) ((doR I ko nh nl s 2 (nI (sdN (nxS (nxS sd)) % nl)) (-1)).getD s)) J R) (as := [.int (nI 2), .int (nI (sdN (nxS (nxS sd)) % nl)), .int (-1)]) (st := []) dM_drawDeed_82 ml12_328 rfl (Nat.le_of_ble_eq_true rfl) ly_95 rfl rfl (by decide) (by omega) (Nat.le_of_ble_eq_true rfl) rfl (Nat.le_refl _) (Nat.le_refl _) (c_M_doesS (s := s) (sd := (nxS (nxS sd))) hn hR ho hk hh hnh hl hnl hW (by omega) hH hL) (m_go ?_)
            show AW _ _ _ _ _ _ _ _ [.int (if (doR I ko nh nl s 2 (nI (sdN (nxS (nxS sd)) % nl)) (-1)) = none then 0 else 1)] _ _ _ _
            refine a_pop dM_drawDeed_85 rfl ?_
            exact a_vret dM_drawDeed_86 rfl ⟨rfl, by unfold drF; rw [if_neg (show ¬ sdN (nxS sd) % 8 = 7 by omega), if_neg (show ¬ nl = 0 from fun q => c28 (by rw [q]; decide)), if_neg (show ¬ (sdN (nxS sd) % 8 = 4 ∨ sdN (nxS sd) % 8 = 5) by omega), if_pos (show sdN (nxS sd) % 8 = 6 by omega)], rfl, rfl⟩
        · refine a_aload_n 2 dM_drawDeed_50 rfl rfl ?_
          refine a_iconstN (a := 1) dM_drawDeed_51 (by decide) ?_
          refine a_iload_n 0 dM_drawDeed_52 rfl rfl ?_
          refine a_aload_n 2 dM_drawDeed_53 rfl rfl ?_
          refine a_aload_n 2 dM_drawDeed_54 rfl rfl ?_
          refine a_geti dM_drawDeed_55 fl12_259 rfl ly_95 (by omega) ?_
          rw [show (crR (sdI I (nxS (nxS sd))) s.1 s.2.1 s.2.2.1 s.2.2.2.1 s.2.2.2.2.1 s.2.2.2.2.2.1 s.2.2.2.2.2.2.1 s.2.2.2.2.2.2.2.1 s.2.2.2.2.2.2.2.2) 95 24 = (nI nh) from (by rw [crR_f (by decide)]; exact hh)]
          refine a_callV (Q' := m_res (some (.int (nI (sdN (nxS (nxS (nxS sd))) % nh)))) (crR (sdI I (nxS (nxS (nxS sd)))) s.1 s.2.1 s.2.2.1 s.2.2.2.1 s.2.2.2.2.1 s.2.2.2.2.2.1 s.2.2.2.2.2.2.1 s.2.2.2.2.2.2.2.1 s.2.2.2.2.2.2.2.2) J R) (as := [.int (nI nh)]) (st := [.int (nI (sdN (nxS (nxS sd)) % nl)), .int (nI 1), .ref 95]) dM_drawDeed_58 ml12_470 rfl (Nat.le_of_ble_eq_true rfl) ly_95 rfl rfl (by decide) (by omega) (Nat.le_of_ble_eq_true rfl) rfl (Nat.le_refl _) (Nat.le_refl _) (c_M_draw (m := nh) hn hR (by omega) (by omega)) (m_go ?_)
          show AW _ _ _ _ _ _ _ _ [.int (nI (sdN (nxS (nxS (nxS sd))) % nh)), .int (nI (sdN (nxS (nxS sd)) % nl)), .int (nI 1), .ref 95] _ _ _ _
          refine a_callV (Q' := m_res (some (.int (if (doR I ko nh nl s 1 (nI (sdN (nxS (nxS sd)) % nl)) (nI (sdN (nxS (nxS (nxS sd))) % nh))) = none then 0 else 1))) (crT (sdI I (nxS (nxS (nxS sd)))) ((doR I ko nh nl s 1 (nI (sdN (nxS (nxS sd)) % nl)) (nI (sdN (nxS (nxS (nxS sd))) % nh))).getD s)) J R) (as := [.int (nI 1), .int (nI (sdN (nxS (nxS sd)) % nl)), .int (nI (sdN (nxS (nxS (nxS sd))) % nh))]) (st := []) dM_drawDeed_61 ml12_328 rfl (Nat.le_of_ble_eq_true rfl) ly_95 rfl rfl (by decide) (by omega) (Nat.le_of_ble_eq_true rfl) rfl (Nat.le_refl _) (Nat.le_refl _) (c_M_doesS (s := s) (sd := (nxS (nxS (nxS sd)))) hn hR ho hk hh hnh hl hnl hW (by omega) hH hL) (m_go ?_)
          show AW _ _ _ _ _ _ _ _ [.int (if (doR I ko nh nl s 1 (nI (sdN (nxS (nxS sd)) % nl)) (nI (sdN (nxS (nxS (nxS sd))) % nh))) = none then 0 else 1)] _ _ _ _
          refine a_pop dM_drawDeed_64 rfl ?_
          refine a_goto (tgt := 86) dM_drawDeed_65 (by decide) ?_
          exact a_vret dM_drawDeed_86 rfl ⟨rfl, by unfold drF; rw [if_neg (show ¬ sdN (nxS sd) % 8 = 7 by omega), if_neg (show ¬ nl = 0 from fun q => c28 (by rw [q]; decide)), if_pos (show sdN (nxS sd) % 8 = 4 ∨ sdN (nxS sd) % 8 = 5 by omega)], rfl, rfl⟩
  · refine a_aload_n 1 dM_drawDeed_13 rfl rfl ?_
    refine a_iconstN (a := 3) dM_drawDeed_14 (by decide) ?_
    refine a_iconst (v := -1) dM_drawDeed_15 (by decide) ?_
    refine a_iconst (v := -1) dM_drawDeed_16 (by decide) ?_
    refine a_callV (Q' := m_res (some (.int (if (doR I ko nh nl s 3 (-1) (-1)) = none then 0 else 1))) (crT (sdI I (nxS sd)) ((doR I ko nh nl s 3 (-1) (-1)).getD s)) J R) (as := [.int (nI 3), .int (-1), .int (-1)]) (st := []) dM_drawDeed_17 ml12_328 rfl (Nat.le_of_ble_eq_true rfl) ly_95 rfl rfl (by decide) (by omega) (Nat.le_of_ble_eq_true rfl) rfl (Nat.le_refl _) (Nat.le_refl _) (c_M_doesS (s := s) (sd := (nxS sd)) hn hR ho hk hh hnh hl hnl hW (by omega) hH hL) (m_go ?_)
    show AW _ _ _ _ _ _ _ _ [.int (if (doR I ko nh nl s 3 (-1) (-1)) = none then 0 else 1)] _ _ _ _
    refine a_pop dM_drawDeed_20 rfl ?_
    refine a_goto (tgt := 86) dM_drawDeed_21 (by decide) ?_
    exact a_vret dM_drawDeed_86 rfl ⟨rfl, by unfold drF; rw [if_pos (show sdN (nxS sd) % 8 = 7 by omega)], rfl, rfl⟩
def dnN (nh nl : Nat) (doit : cS → Nat → Int32 → Int32 → Option cS) : Nat → Int32 × cS → Int32 × cS
  | 0, q => q
  | k + 1, q => drF nh nl doit (dnN nh nl doit k q).1 (dnN nh nl doit k q).2
theorem drF_WFl {nh nl : Nat} {doit : cS → Nat → Int32 → Int32 → Option cS} {sd : Int32} {s : cS} (hd : ∀ u l h s', doit s u l h = some s' → WFl s'.2.1) (hL : WFl s.2.1) : WFl (drF nh nl doit sd s).2.2.1 := by
  have key : ∀ u l h, WFl ((doit s u l h).getD s).2.1 := by
    intro u l h
    cases e : doit s u l h with
    | none => exact hL
    | some s' => exact hd u l h s' e
  unfold drF
  split
  · exact key _ _ _
  · split
    · exact hL
    · split
      · exact key _ _ _
      · exact key _ _ _
theorem dnN_WFl {nh nl : Nat} {doit : cS → Nat → Int32 → Int32 → Option cS} (hd : ∀ s, WFl s.2.1 → ∀ u l h s', doit s u l h = some s' → WFl s'.2.1) {q : Int32 × cS} (hL : WFl q.2.2.1) : ∀ k, WFl (dnN nh nl doit k q).2.2.1 := by
  intro k
  induction k with
  | zero => exact hL
  | succ k ih => exact drF_WFl (hd _ ih) ih
theorem l_M_drawn {S : Nat × (Nat → Int32)} {d n : Nat} {I : mI} {J : mJ} {R : mR} {ko nh nl : Nat} (hn : 122 ≤ n) (hR : m_fin R) (ho : I 95 23 = nI ko) (hk : ko < 7) (hh : I 95 24 = nI nh) (hnh : nh ≤ 6) (hl : I 95 25 = nI nl) (hnl : nl ≤ 10) (hW : WFk I ko) {sd : Int32} {s : cS} (hnh1 : 1 ≤ nh) (hH : WFh (I 106) nl) (hL : WFl s.2.1) {N : Nat} {t : Int32} (hN : N ≤ 60) {Q : Option Value → mI → mJ → mR → Prop} (hQ : Q (some (.int (osF nh (dnN nh nl (doR I ko nh nl) N (sd, s)).2 t))) (crT (sdI I (dnN nh nl (doR I ko nh nl) N (sd, s)).1) (dnN nh nl (doR I ko nh nl) N (sd, s)).2) J R) : ∀ m k, k + m = N → AW S (d + 8) YM_drawn n n Q 39 [(5, .int (nI k)), (0, .ref 95), (3, .int (nI N)), (4, .int t)] [] (crT (sdI I (dnN nh nl (doR I ko nh nl) k (sd, s)).1) (dnN nh nl (doR I ko nh nl) k (sd, s)).2) J R n := by
  have hdw : ∀ s : cS, WFl s.2.1 → ∀ u l h s', doR I ko nh nl s u l h = some s' → WFl s'.2.1 := fun s hs u l h s' e => doF_WFl hnl (fun l hl => hW.ok (by omega)) hs e
  intro m
  induction m with
  | zero =>
    intro k hk9
    rw [show k = N by omega]
    refine a_iload 0 dM_drawn_39 rfl ?_
    refine a_iload_n 2 dM_drawn_41 rfl rfl ?_
    refine a_icmp_geN (tgt := 55) dM_drawn_42 (by decide) (by omega) (by omega) (fun _ => ?_) (fun c => False.elim (by omega))
    refine a_aload_n 1 dM_drawn_55 rfl rfl ?_
    refine a_iload 3 dM_drawn_56 rfl ?_
    refine a_callV (Q' := m_res (some (.int (osF nh (dnN nh nl (doR I ko nh nl) N (sd, s)).2 t))) (crT (sdI I (dnN nh nl (doR I ko nh nl) N (sd, s)).1) (dnN nh nl (doR I ko nh nl) N (sd, s)).2) J R) (as := [.int t]) (st := []) dM_drawn_58 ml12_346 rfl (Nat.le_of_ble_eq_true rfl) ly_95 rfl rfl (by decide) (by omega) (Nat.le_of_ble_eq_true rfl) rfl (Nat.le_refl _) (Nat.le_refl _) (c_M_ofState (I := sdI I (dnN nh nl (doR I ko nh nl) N (sd, s)).1) (s := (dnN nh nl (doR I ko nh nl) N (sd, s)).2) (ko := ko) (nh := nh) (nl := nl) hn hR ho hk hh hnh hl hnl hW) (m_go ?_)
    show AW _ _ _ _ _ _ _ _ [.int (osF nh (dnN nh nl (doR I ko nh nl) N (sd, s)).2 t)] _ _ _ _
    exact a_iret dM_drawn_61 rfl hQ
  | succ m ih =>
    intro k hk9
    refine a_iload 0 dM_drawn_39 rfl ?_
    refine a_iload_n 2 dM_drawn_41 rfl rfl ?_
    refine a_icmp_geN (tgt := 55) dM_drawn_42 (by decide) (by omega) (by omega) (fun c => False.elim (by omega)) (fun _ => ?_)
    refine a_aload_n 1 dM_drawn_45 rfl rfl ?_
    refine a_callV (Q' := m_res none (crT (sdI I (dnN nh nl (doR I ko nh nl) (k + 1) (sd, s)).1) (dnN nh nl (doR I ko nh nl) (k + 1) (sd, s)).2) J R) (as := []) (st := []) dM_drawn_46 ml12_473 rfl (Nat.le_of_ble_eq_true rfl) ly_95 rfl rfl (by decide) (by omega) (Nat.le_of_ble_eq_true rfl) rfl (Nat.le_refl _) (Nat.le_refl _) (c_M_drawDeed (sd := (dnN nh nl (doR I ko nh nl) k (sd, s)).1) (s := (dnN nh nl (doR I ko nh nl) k (sd, s)).2) hn hR ho hk hh hnh hl hnl hW hnh1 hH (dnN_WFl hdw (q := (sd, s)) hL k)) (m_go ?_)
    show AW _ _ _ _ _ _ _ _ [] _ _ _ _
    refine a_iincN (lv' := [(5, .int (nI (k + 1))), (0, .ref 95), (3, .int (nI N)), (4, .int t)]) (j := 0) dM_drawn_49 rfl (by decide) rfl ?_
    refine a_goto (tgt := 39) dM_drawn_52 (by decide) ?_
    refine a_locs (lv' := [(5, .int (nI (k + 1))), (0, .ref 95), (3, .int (nI N)), (4, .int t)]) [0, 1, 2, 3] rfl ?_
    exact ih (k + 1) (by omega)
