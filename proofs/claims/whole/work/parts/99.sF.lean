theorem finA_D {len of : Nat} {st : TS} : (finA len of st).D = st.D := by
  unfold finA
  by_cases c : st.f = 0 ∧ of = 0 ∧ ¬ (st.gh < st.D 0 ∧ st.gl < st.D 1)
  · rw [if_pos c]
  · rw [if_neg c]
theorem r_fin {S : Nat × (Nat → Int32)} {d n : Nat} {I : mI} {J : mJ} {R : mR} (hn : 122 ≤ n) (hR : m_fin R) {K N P F : Nat → Int32} {len i of : Nat} (hlen : F 6 = nI len) (hl6 : len ≤ 600) (hof : of < 3) {st : TS} (hC : CR of st I F) {Q : Option Value → mI → mJ → mR → Prop} (hQ : ∀ G, G 3 = nI (finA len of st).f → G 4 = (if (finA len of st).f = 0 then -1 else nI (finA len of st).pl) → Q none (rM I G K N P) J R) : AW S (d + 8) YReader_read n n Q 60 [(4, .int (nI i)), (0, .ref 40), (1, .int (nI of)), (2, .ref 2), (3, .int (nI len))] [] (m_row (m_row (m_row (m_row I 40 F) 57 K) 58 N) 59 P) J R n := by
  by_cases z : st.f = 0
  · have z3 : F 3 = 0 := (CR_z hC).mpr z
    by_cases o0 : of = 0
    · subst o0
      obtain ⟨nl, nw, H⟩ := (show ∃ nl nw, OD I 41 st.D nl nw from hC.da)
      by_cases g : st.gh < st.D 0 ∧ st.gl < st.D 1
      · have fe : finA len 0 st = st := by unfold finA; rw [if_neg (fun q => q.2.2 g)]
        rw [fe] at hQ
        refine a_aload_n 1 dReader_read_60 rfl rfl ?_
        refine a_geti dReader_read_61 fl7_60 rfl ly_40 (by omega) ?_
        rw [show (m_row (m_row (m_row (m_row I 40 F) 57 K) 58 N) 59 P) 40 3 = (F 3) from rfl]
        refine a_if_ne (tgt := 87) dReader_read_64 (by decide) (fun c => False.elim (c z3)) (fun _ => ?_)
        refine a_iload_n 2 dReader_read_67 rfl rfl ?_
        refine a_if_ne (tgt := 87) dReader_read_68 (by decide) (fun c => False.elim (c rfl)) (fun _ => ?_)
        refine a_aload_n 1 dReader_read_71 rfl rfl ?_
        refine a_callV (Q' := m_res (some (.int (nI 1))) (m_row (m_row (m_row (m_row I 40 F) 57 K) 58 N) 59 P) J R) (as := []) (st := []) dReader_read_72 ml7_69 rfl (Nat.le_of_ble_eq_true rfl) ly_40 rfl rfl (by decide) (by omega) (Nat.le_of_ble_eq_true rfl) rfl (Nat.le_refl _) (Nat.le_refl _) (by have h := c_allThere (S := S) (d := d + 7) (n := n) (I := I) (J := J) (R := R) (F := F) (K := K) (N := N) (P := P) hn hR; rw [hC.gh, hC.gl, H.h0, H.a1, ← H.d1, if_pos g.1, if_pos g.2] at h; exact h) (m_go ?_)
        show AW _ _ _ _ _ _ _ _ [.int (nI 1)] _ _ _ _
        refine a_if_ne (tgt := 87) dReader_read_75 (by decide) (fun _ => ?_) (fun c => False.elim (absurd c (by decide)))
        exact a_vret dReader_read_87 rfl (hQ F hC.f3 hC.f4)
      · have fe : finA len 0 st = ⟨4, len, st.gh, st.gl, st.D⟩ := by unfold finA; rw [if_pos ⟨z, rfl, g⟩]
        rw [fe] at hQ
        have ev : (if st.gh < st.D 0 then (if st.gl < st.D 1 then nI 1 else nI 0) else nI 0) = nI 0 := by
          by_cases g1 : st.gh < st.D 0
          · rw [if_pos g1, if_neg (fun q => g ⟨g1, q⟩)]
          · rw [if_neg g1]
        refine a_aload_n 1 dReader_read_60 rfl rfl ?_
        refine a_geti dReader_read_61 fl7_60 rfl ly_40 (by omega) ?_
        rw [show (m_row (m_row (m_row (m_row I 40 F) 57 K) 58 N) 59 P) 40 3 = (F 3) from rfl]
        refine a_if_ne (tgt := 87) dReader_read_64 (by decide) (fun c => False.elim (c z3)) (fun _ => ?_)
        refine a_iload_n 2 dReader_read_67 rfl rfl ?_
        refine a_if_ne (tgt := 87) dReader_read_68 (by decide) (fun c => False.elim (c rfl)) (fun _ => ?_)
        refine a_aload_n 1 dReader_read_71 rfl rfl ?_
        refine a_callV (Q' := m_res (some (.int (nI 0))) (m_row (m_row (m_row (m_row I 40 F) 57 K) 58 N) 59 P) J R) (as := []) (st := []) dReader_read_72 ml7_69 rfl (Nat.le_of_ble_eq_true rfl) ly_40 rfl rfl (by decide) (by omega) (Nat.le_of_ble_eq_true rfl) rfl (Nat.le_refl _) (Nat.le_refl _) (by have h := c_allThere (S := S) (d := d + 7) (n := n) (I := I) (J := J) (R := R) (F := F) (K := K) (N := N) (P := P) hn hR; rw [hC.gh, hC.gl, H.h0, H.a1, ← H.d1, ev] at h; exact h) (m_go ?_)
        show AW _ _ _ _ _ _ _ _ [.int (nI 0)] _ _ _ _
        refine a_if_ne (tgt := 87) dReader_read_75 (by decide) (fun c => False.elim (c rfl)) (fun _ => ?_)
        refine a_aload_n 1 dReader_read_78 rfl rfl ?_
        refine a_iconstN (a := 4) dReader_read_79 (by decide) ?_
        refine a_aload_n 1 dReader_read_80 rfl rfl ?_
        refine a_geti dReader_read_81 fl7_46 rfl ly_40 (by omega) ?_
        rw [show (m_row (m_row (m_row (m_row I 40 F) 57 K) 58 N) 59 P) 40 6 = (nI len) from hlen]
        refine a_callV (Q' := m_res none (rM I (noF F (nI 4) (nI len)) K N P) J R) (as := [.int (nI 4), .int (nI len)]) (st := []) dReader_read_84 ml7_73 rfl (Nat.le_of_ble_eq_true rfl) ly_40 rfl rfl (by decide) (by omega) (Nat.le_of_ble_eq_true rfl) rfl (Nat.le_refl _) (Nat.le_refl _) (c_note hn hR) (m_go ?_)
        show AW _ _ _ _ _ _ _ _ [] _ _ _ _
        exact a_vret dReader_read_87 rfl (hQ _ (by unfold noF; rw [if_pos z3]; rfl) (by unfold noF; rw [if_pos z3]; rfl))
    · have fe : finA len of st = st := by unfold finA; rw [if_neg (fun q => o0 q.2.1)]
      rw [fe] at hQ
      refine a_aload_n 1 dReader_read_60 rfl rfl ?_
      refine a_geti dReader_read_61 fl7_60 rfl ly_40 (by omega) ?_
      rw [show (m_row (m_row (m_row (m_row I 40 F) 57 K) 58 N) 59 P) 40 3 = (F 3) from rfl]
      refine a_if_ne (tgt := 87) dReader_read_64 (by decide) (fun c => False.elim (c z3)) (fun _ => ?_)
      refine a_iload_n 2 dReader_read_67 rfl rfl ?_
      refine a_if_ne (tgt := 87) dReader_read_68 (by decide) (fun _ => ?_) (fun c => False.elim (o0 ((nI_eq (by omega) (by omega)).mp c)))
      exact a_vret dReader_read_87 rfl (hQ F hC.f3 hC.f4)
  · have fe : finA len of st = st := by unfold finA; rw [if_neg (fun q => z q.1)]
    rw [fe] at hQ
    refine a_aload_n 1 dReader_read_60 rfl rfl ?_
    refine a_geti dReader_read_61 fl7_60 rfl ly_40 (by omega) ?_
    rw [show (m_row (m_row (m_row (m_row I 40 F) 57 K) 58 N) 59 P) 40 3 = (F 3) from rfl]
    refine a_if_ne (tgt := 87) dReader_read_64 (by decide) (fun _ => ?_) (fun c => False.elim (z ((CR_z hC).mp c)))
    exact a_vret dReader_read_87 rfl (hQ F hC.f3 hC.f4)
theorem ms_le {T : Nat → Int32} {len : Nat} : ∀ sh p, p ≤ len → p ≤ (ms T len sh p).2 ∧ (ms T len sh p).2 ≤ len := by
  intro sh
  induction sh with
  | nil => intro p hp; exact ⟨Nat.le_refl _, hp⟩
  | cons a r ih =>
    intro p hp
    have hb := tkB_le (T := T) hp
    have he := tkE_le (T := T) hp
    cases a with
    | true =>
      show p ≤ (if kI T len p = -1 then (false, p) else ms T len r (tkE T len p)).2 ∧ (if kI T len p = -1 then (false, p) else ms T len r (tkE T len p)).2 ≤ len
      by_cases c : kI T len p = -1
      · rw [if_pos c]; exact ⟨Nat.le_refl _, hp⟩
      · rw [if_neg c]; have q := ih (tkE T len p) he.2; exact ⟨by omega, q.2⟩
    | false =>
      show p ≤ (if tkS T len p = 2 then ms T len r (tkE T len p) else (false, p)).2 ∧ (if tkS T len p = 2 then ms T len r (tkE T len p) else (false, p)).2 ≤ len
      by_cases c : tkS T len p = 2
      · rw [if_pos c]; have q := ih (tkE T len p) he.2; exact ⟨by omega, q.2⟩
      · rw [if_neg c]; exact ⟨Nat.le_refl _, hp⟩
theorem ms_on {T : Nat → Int32} {len p : Nat} (hp : p ≤ len) : p ≤ tkE T len p := by
  have hb := tkB_le (T := T) hp
  have he := tkE_le (T := T) hp
  omega
theorem tk_on {T : Nat → Int32} {len p : Nat} (hp : p ≤ len) (h : ¬ tkS T len p = 0) : p < tkE T len p := by
  have hb := tkB_le (T := T) hp
  have h0 : ¬ len ≤ tkB T len p := fun q => h (by unfold tkS; rw [if_pos q])
  have := tkE_lt hp h0
  omega
theorem l_read {S : Nat × (Nat → Int32)} {d n : Nat} {I : mI} {J : mJ} {R : mR} (hn : 122 ≤ n) (hR : m_fin R) (hRt : R 40 5 = some 2) {len of : Nat} (hl6 : len ≤ 600) (hof : of < 3) {out : TS} {Q : Option Value → mI → mJ → mR → Prop} (hQ : ∀ A F K N P, (∀ a, a < 41 ∨ 56 < a → A a = I a) → F 3 = nI out.f → F 4 = (if out.f = 0 then -1 else nI out.pl) → (out.f = 0 → dR of A out.D) → Q none (rM A F K N P) J R) : ∀ r i p A F K N P st, i + r = len + 1 → i ≤ p → p ≤ len → (∀ a, a < 41 ∨ 56 < a → A a = I a) → F 6 = nI len → F 9 = nI p → CR of st A F → rdA (I 2) len of r p st = out → AW S (d + 8) YReader_read n n Q 9 [(4, .int (nI i)), (0, .ref 40), (1, .int (nI of)), (2, .ref 2), (3, .int (nI len))] [] (m_row (m_row (m_row (m_row A 40 F) 57 K) 58 N) 59 P) J R n := by
  intro r
  induction r with
  | zero => intro i p A F K N P st h1 h2 h3; exact absurd h2 (by omega)
  | succ r ih =>
    intro i p A F K N P st h1 h2 h3 hA hlen h9 hC ho
    have e2 : A 2 = I 2 := hA 2 (Or.inl (by decide))
    have hb := tkB_le (T := A 2) h3
    have he := tkE_le (T := A 2) h3
    have hs4 := tkS_le (T := A 2) (len := len) (p := p)
    have hC1 : CR of st A (tkF (A 2) len p F) := CR_F hC rfl rfl rfl rfl
    refine a_iload 0 dReader_read_9 rfl ?_
    refine a_aload_n 1 dReader_read_11 rfl rfl ?_
    refine a_geti dReader_read_12 fl7_46 rfl ly_40 (by omega) ?_
    rw [show (m_row (m_row (m_row (m_row A 40 F) 57 K) 58 N) 59 P) 40 6 = (nI len) from hlen]
    refine a_icmp_gtN (tgt := 60) dReader_read_15 (by decide) (by omega) (by omega) (fun c => False.elim (by omega)) (fun _ => ?_)
    refine a_aload_n 1 dReader_read_18 rfl rfl ?_
    refine a_callV (Q' := m_res none (rM A (tkF (A 2) len p F) K N P) J R) (as := []) (st := []) dReader_read_19 ml7_50 rfl (Nat.le_of_ble_eq_true rfl) ly_40 rfl rfl (by decide) (by omega) (Nat.le_of_ble_eq_true rfl) rfl (Nat.le_refl _) (Nat.le_refl _) (by have h := c_nextToken (S := S) (d := d + 5) (n := n) (J := J) (R := R) (I := m_row (m_row (m_row A 57 K) 58 N) 59 P) (F := F) (len := len) (p := p) hn hR hRt hlen hl6 h3 h9; rw [rM_c, rM_c] at h; exact h) (m_go ?_)
    show AW _ _ _ _ _ _ _ _ [] _ _ _ _
    refine a_aload_n 1 dReader_read_22 rfl rfl ?_
    refine a_geti dReader_read_23 fl7_53 rfl ly_40 (by omega) ?_
    rw [show (rM A (tkF (A 2) len p F) K N P) 40 7 = (nI (tkS (A 2) len p)) from rfl]
    by_cases hz : tkS (A 2) len p = 0
    · refine a_if_ne (tgt := 32) dReader_read_26 (by decide) (fun c => False.elim (c (by rw [hz]; rfl))) (fun _ => ?_)
      refine a_goto (tgt := 60) dReader_read_29 (by decide) ?_
      refine r_fin (F := tkF (A 2) len p F) (st := st) hn hR hlen hl6 hof hC1 (fun G g3 g4 => hQ A G K N P hA ?_ ?_ ?_)
      · rw [← ho, ← e2]; show G 3 = nI (if tkS (A 2) len p = 0 then finA len of st else _).f; rw [if_pos hz]; exact g3
      · rw [← ho, ← e2]; show G 4 = (if (if tkS (A 2) len p = 0 then finA len of st else _).f = 0 then -1 else nI (if tkS (A 2) len p = 0 then finA len of st else _).pl); rw [if_pos hz]; exact g4
      · intro _; rw [← ho, ← e2]; show dR of A (if tkS (A 2) len p = 0 then finA len of st else _).D; rw [if_pos hz, finA_D]; exact hC.da
    · refine a_if_ne (tgt := 32) dReader_read_26 (by decide) (fun _ => ?_) (fun c => False.elim (hz ((nI_eq (by omega) (by omega)).mp c)))
      refine a_aload_n 1 dReader_read_32 rfl rfl ?_
      refine a_iload_n 2 dReader_read_33 rfl rfl ?_
      refine a_callV (Q' := rlQ A J R len of p st) (as := [.int (nI of)]) (st := []) dReader_read_34 ml7_56 rfl (Nat.le_of_ble_eq_true rfl) ly_40 rfl rfl (by decide) (by omega) (Nat.le_of_ble_eq_true rfl) rfl (Nat.le_refl _) (Nat.le_refl _) (c_readLine (F := tkF (A 2) len p F) hn hR hRt hlen hl6 h3 rfl rfl rfl hof hC1) ?_
      intro v I2 J2 R2 hq9
      unfold rlQ at hq9
      obtain ⟨f1, f2, hq9⟩ := hq9
      rw [f1, f2]
      rw [e2] at hq9 hz
      rcases hq9 with ⟨ev, q, hq, F', K', N', P', g8, f3⟩ | ⟨ev, hl1, hm1, A', F', K', N', P', hA', g6, g9, hC', f3⟩
      · rw [ev, f3]
        show AW _ _ _ _ _ _ _ _ [.int 0] (m_row (m_row (m_row (m_row A 40 F') 57 K') 58 N') 59 P') _ _ _
        have hout : out.f = 1 ∧ out.pl = tkB (I 2) len q ∧ out.D = st.D := by
          rw [← ho]
          unfold rdA
          rw [if_neg hz]
          rcases hq with ⟨q1, q2⟩ | ⟨q1, q2, q3⟩
          · rw [if_pos q1, q2]; exact ⟨rfl, rfl, rfl⟩
          · rw [if_neg q1, if_neg q2, q3]; exact ⟨rfl, rfl, rfl⟩
        refine a_if_ne (tgt := 54) dReader_read_37 (by decide) (fun c => False.elim (c rfl)) (fun _ => ?_)
        refine a_aload_n 1 dReader_read_40 rfl rfl ?_
        refine a_iconstN (a := 1) dReader_read_41 (by decide) ?_
        refine a_puti dReader_read_42 fl7_60 rfl ly_40 (by omega) ?_
        rw [show m_up (m_row (m_row (m_row (m_row A 40 F') 57 K') 58 N') 59 P') 40 3 (nI 1) = (m_row (m_row (m_row (m_row A 40 (va_up F' 3 (nI 1))) 57 (K')) 58 (N')) 59 (P')) from (by rw [m_up_comm (by decide), m_up_comm (by decide), m_up_comm (by decide), m_up_r])]
        refine a_aload_n 1 dReader_read_45 rfl rfl ?_
        refine a_aload_n 1 dReader_read_46 rfl rfl ?_
        refine a_geti dReader_read_47 fl7_63 rfl ly_40 (by omega) ?_
        rw [show (m_row (m_row (m_row (m_row A 40 (va_up F' 3 (nI 1))) 57 (K')) 58 (N')) 59 (P')) 40 8 = (F' 8) from rfl]
        refine a_puti dReader_read_50 fl7_66 rfl ly_40 (by omega) ?_
        rw [show m_up (m_row (m_row (m_row (m_row A 40 (va_up F' 3 (nI 1))) 57 (K')) 58 (N')) 59 (P')) 40 4 (F' 8) = (m_row (m_row (m_row (m_row A 40 (va_up (va_up F' 3 (nI 1)) 4 (F' 8))) 57 (K')) 58 (N')) 59 (P')) from (by rw [m_up_comm (by decide), m_up_comm (by decide), m_up_comm (by decide), m_up_r])]
        exact a_vret dReader_read_53 rfl (hQ _ _ _ _ _ hA (by rw [hout.1]; rfl) (by rw [hout.1, hout.2.1, if_neg (by decide)]; exact g8) (fun h => absurd (hout.1.symm.trans h) (by decide)))
      · rw [ev, f3]
        show AW _ _ _ _ _ _ _ _ [.int 1] _ _ _ _
        refine a_if_ne (tgt := 54) dReader_read_37 (by decide) (fun _ => ?_) (fun c => False.elim (absurd c (by decide)))
        refine a_iincN (lv' := [(4, .int (nI (i + 1))), (0, .ref 40), (1, .int (nI of)), (2, .ref 2), (3, .int (nI len))]) (j := 0) dReader_read_54 rfl (by decide) rfl ?_
        refine a_goto (tgt := 9) dReader_read_57 (by decide) ?_
        refine a_locs (lv' := [(4, .int (nI (i + 1))), (0, .ref 40), (1, .int (nI of)), (2, .ref 2), (3, .int (nI len))]) [0, 1, 2, 3, 4] rfl ?_
        have ml := ms_le (T := I 2) (len := len) (shA (lA (I 2) len of p).toNatClampNeg) (tkE (I 2) len p) (e2 ▸ he.2)
        have hpm : p < tkE (I 2) len (msA (I 2) len of p).2 := Nat.lt_of_lt_of_le (tk_on h3 hz) (Nat.le_trans ml.1 (ms_on ml.2))
        refine ih (i + 1) (tkE (I 2) len (msA (I 2) len of p).2) A' F' K' N' P' _ (by omega) (by omega) (tkE_le ml.2).2 (fun a ha => (hA' a ha).trans (hA a ha)) g6 g9 hC' ?_
        rw [← ho]
        show _ = (if tkS (I 2) len p = 0 then _ else _)
        rw [if_neg hz, if_neg hl1, if_pos hm1]
