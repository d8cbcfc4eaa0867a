/-- the law's own walk: from this place on it comes to its end with 1 -/
def LW (S : Nat × (Nat → Int32)) (pc : Nat) (lv : List (Nat × Value)) (st : List Value) (I : mI) (J : mJ) (R : mR) (n : Nat) : Prop :=
  ∀ (p : Program) (l : Launch) (e : Env) (s : State) (m : MethodId) (ba : Nat) (below : List Frame) (meth : Method) (c : Code) (b : Nat) (X : Nat → Nat) (D : va_G) (cA : Nat → ClassId), m_fix S YL p s m #[Value.ref ba] meth c b X D cA 0 →
    ∀ (H : Heap) (locs : List Loc) (lsr : Array Slot), m_now YL s b X D cA 0 lv I J R n H locs lsr →
      W p l e room_1 s m #[Value.ref ba] below meth c H locs n (m_sl n) (lw_Z below #[Value.ref ba] s) (F0 m pc lsr (st.map (m_cv (m_ad b X))))
section LR
variable {S : Nat × (Nat → Int32)} {pc : Nat} {lv lv' : List (Nat × Value)} {st : List Value} {I : mI} {J : mJ} {R : mR} {n : Nat}
theorem l_locs (ks : List Nat) (hl : lv_pick lv ks = lv') (k : LW S pc lv' st I J R n) : LW S pc lv st I J R n := by
  intro p l e s m ba below meth c b X D cA hF H locs lsr hN
  refine k p l e s m ba below meth c b X D cA hF H locs lsr ⟨hN.1, hN.2.1, ?_, hN.2.2.2⟩
  refine lv_sub hN.2.2.1 ks ?_
  subst hl
  simp only [lv_pick, m_lvc, List.getElem?_map, List.map_filterMap, List.filterMap_map]
theorem l_dup {va : Value} (hd : decode YL.2.1 pc = .ok (.dup, 1)) (hva : va.category = 1) (k : LW S (pc + 1) lv (va :: va :: st) I J R n) : LW S pc lv (va :: st) I J R n :=
  fun p l e s m ba below meth c b X D cA hF H locs lsr hN => lv_dup hF.1 hF.2.1 hd (by rw [m_cv_cat]; exact hva) (k p l e s m ba below meth c b X D cA hF H locs lsr hN)
theorem l_astore_n {q : Fin 4} {i : Nat} {x : Nat} (hd : decode YL.2.1 pc = .ok (.astore_n q, 1)) (hq : (q : Nat) = i) (hn : i < YL.2.2.1) (hl : m_st1 i (.ref x) lv = lv') (k : LW S (pc + 1) lv' st I J R n) : LW S pc lv (.ref x :: st) I J R n :=
  fun p l e s m ba below meth c b X D cA hF H locs lsr hN => lv_astore_n (lv' := m_lvc (m_ad b X) lv') hF.1 hF.2.1 hd hq hN.2.2.1 hn (by subst hl; exact m_st1_c (v := .ref x)) (fun lsr hl2 => k p l e s m ba below meth c b X D cA hF H locs lsr ⟨hN.1, hN.2.1, hl2, hN.2.2.2⟩)
theorem l_iconst {z : Int} {v : Int32} (hd : decode YL.2.1 pc = .ok (.iconst z, 1)) (hv : Int32.ofInt z = v) (k : LW S (pc + 1) lv (.int v :: st) I J R n) : LW S pc lv st I J R n :=
  fun p l e s m ba below meth c b X D cA hF H locs lsr hN => lv_iconst hF.1 hF.2.1 hd hv (k p l e s m ba below meth c b X D cA hF H locs lsr hN)
theorem l_istore_n {q : Fin 4} {i : Nat} {x : Int32} (hd : decode YL.2.1 pc = .ok (.istore_n q, 1)) (hq : (q : Nat) = i) (hn : i < YL.2.2.1) (hl : m_st1 i (.int x) lv = lv') (k : LW S (pc + 1) lv' st I J R n) : LW S pc lv (.int x :: st) I J R n :=
  fun p l e s m ba below meth c b X D cA hF H locs lsr hN => lv_istore_n (lv' := m_lvc (m_ad b X) lv') hF.1 hF.2.1 hd hq hN.2.2.1 hn (by subst hl; exact m_st1_c (v := .int x)) (fun lsr hl2 => k p l e s m ba below meth c b X D cA hF H locs lsr ⟨hN.1, hN.2.1, hl2, hN.2.2.2⟩)
theorem l_iload_n {q : Fin 4} {i : Nat} {x : Int32} (j : Nat) (hd : decode YL.2.1 pc = .ok (.iload_n q, 1)) (hq : (q : Nat) = i) (hl : lv[j]? = some (i, .int x)) (k : LW S (pc + 1) lv (.int x :: st) I J R n) : LW S pc lv st I J R n :=
  fun p l e s m ba below meth c b X D cA hF H locs lsr hN => lv_iload_n hF.1 hF.2.1 hd hq (lv_at hN.2.2.1 j (m_lvc_get hl)) (k p l e s m ba below meth c b X D cA hF H locs lsr hN)
theorem l_aload_n {q : Fin 4} {i : Nat} {x : Nat} (j : Nat) (hd : decode YL.2.1 pc = .ok (.aload_n q, 1)) (hq : (q : Nat) = i) (hl : lv[j]? = some (i, .ref x)) (k : LW S (pc + 1) lv (.ref x :: st) I J R n) : LW S pc lv st I J R n :=
  fun p l e s m ba below meth c b X D cA hF H locs lsr hN => lv_aload_n hF.1 hF.2.1 hd hq (lv_at hN.2.2.1 j (m_lvc_get hl)) (k p l e s m ba below meth c b X D cA hF H locs lsr hN)
theorem l_bipush {z : Int} {v : Int32} (hd : decode YL.2.1 pc = .ok (.bipush z, 2)) (hv : (Int8.ofInt z).toInt32 = v) (k : LW S (pc + 2) lv (.int v :: st) I J R n) : LW S pc lv st I J R n :=
  fun p l e s m ba below meth c b X D cA hF H locs lsr hN => lv_bipush hF.1 hF.2.1 hd hv (k p l e s m ba below meth c b X D cA hF H locs lsr hN)
theorem l_isub {x y : Int32} (hd : decode YL.2.1 pc = .ok (.isub, 1)) (k : LW S (pc + 1) lv (.int (x - y) :: st) I J R n) : LW S pc lv (.int y :: .int x :: st) I J R n :=
  fun p l e s m ba below meth c b X D cA hF H locs lsr hN => lv_isub hF.1 hF.2.1 hd (k p l e s m ba below meth c b X D cA hF H locs lsr hN)
theorem l_icmp_gt {x y : Int32} {off : Int} {tgt : Nat} (hd : decode YL.2.1 pc = .ok (.if_icmp .gt off, 3)) (ht : (pc : Int) + off = (tgt : Int)) (k1 : y < x → LW S tgt lv st I J R n) (k2 : ¬ y < x → LW S (pc + 3) lv st I J R n) : LW S pc lv (.int y :: .int x :: st) I J R n :=
  fun p l e s m ba below meth c b X D cA hF H locs lsr hN => lv_icmp_gt hF.1 hF.2.1 hd ht (fun h => k1 h p l e s m ba below meth c b X D cA hF H locs lsr hN) (fun h => k2 h p l e s m ba below meth c b X D cA hF H locs lsr hN)
theorem l_iand {x y : Int32} (hd : decode YL.2.1 pc = .ok (.iand, 1)) (k : LW S (pc + 1) lv (.int (x &&& y) :: st) I J R n) : LW S pc lv (.int y :: .int x :: st) I J R n :=
  fun p l e s m ba below meth c b X D cA hF H locs lsr hN => lv_iand hF.1 hF.2.1 hd (k p l e s m ba below meth c b X D cA hF H locs lsr hN)
theorem l_tableIn {dflt lo hi : Int} {offs : Array Int} {len : Nat} {x : Int32} {off : Int} {tgt : Nat} (hd : decode YL.2.1 pc = .ok (.tableswitch dflt lo hi offs, len)) (h1 : ¬ x.toInt < lo) (h2 : ¬ hi < x.toInt) (ho : offs[(x.toInt - lo).toNat]? = some off) (ht : (pc : Int) + off = (tgt : Int)) (k : LW S tgt lv st I J R n) : LW S pc lv (.int x :: st) I J R n :=
  fun p l e s m ba below meth c b X D cA hF H locs lsr hN => lv_tableIn hF.1 hF.2.1 hd h1 h2 ho ht (k p l e s m ba below meth c b X D cA hF H locs lsr hN)
theorem l_iadd {x y : Int32} (hd : decode YL.2.1 pc = .ok (.iadd, 1)) (k : LW S (pc + 1) lv (.int (x + y) :: st) I J R n) : LW S pc lv (.int y :: .int x :: st) I J R n :=
  fun p l e s m ba below meth c b X D cA hF H locs lsr hN => lv_iadd hF.1 hF.2.1 hd (k p l e s m ba below meth c b X D cA hF H locs lsr hN)
theorem l_icmp_eq {x y : Int32} {off : Int} {tgt : Nat} (hd : decode YL.2.1 pc = .ok (.if_icmp .eq off, 3)) (ht : (pc : Int) + off = (tgt : Int)) (k1 : x = y → LW S tgt lv st I J R n) (k2 : ¬ x = y → LW S (pc + 3) lv st I J R n) : LW S pc lv (.int y :: .int x :: st) I J R n :=
  fun p l e s m ba below meth c b X D cA hF H locs lsr hN => lv_icmp_eq hF.1 hF.2.1 hd ht (fun h => k1 h p l e s m ba below meth c b X D cA hF H locs lsr hN) (fun h => k2 h p l e s m ba below meth c b X D cA hF H locs lsr hN)
theorem l_lcmp {x y : Int64} (hd : decode YL.2.1 pc = .ok (.lcmp, 1)) (k : LW S (pc + 1) lv (.int (lg_cmp x y) :: st) I J R n) : LW S pc lv (.long y :: .long x :: st) I J R n :=
  fun p l e s m ba below meth c b X D cA hF H locs lsr hN => W.lcmp hF.1 hF.2.1 hd (k p l e s m ba below meth c b X D cA hF H locs lsr hN)
theorem l_if_eq {x : Int32} {off : Int} {tgt : Nat} (hd : decode YL.2.1 pc = .ok (.ifCond .eq off, 3)) (ht : (pc : Int) + off = (tgt : Int)) (k1 : x = 0 → LW S tgt lv st I J R n) (k2 : ¬ x = 0 → LW S (pc + 3) lv st I J R n) : LW S pc lv (.int x :: st) I J R n :=
  fun p l e s m ba below meth c b X D cA hF H locs lsr hN => lv_if_eq hF.1 hF.2.1 hd ht (fun h => k1 h p l e s m ba below meth c b X D cA hF H locs lsr hN) (fun h => k2 h p l e s m ba below meth c b X D cA hF H locs lsr hN)
theorem l_goto {off : Int} {tgt : Nat} (hd : decode YL.2.1 pc = .ok (.goto off, 3)) (ht : (pc : Int) + off = (tgt : Int)) (k : LW S tgt lv st I J R n) : LW S pc lv st I J R n :=
  fun p l e s m ba below meth c b X D cA hF H locs lsr hN => lv_goto hF.1 hF.2.1 hd ht (k p l e s m ba below meth c b X D cA hF H locs lsr hN)
theorem l_iinc {i : Nat} {z : Int} {x v : Int32} (j : Nat) (hd : decode YL.2.1 pc = .ok (.iinc i z, 3)) (hk : lv[j]? = some (i, .int x)) (hv : x + Int32.ofInt z = v) (hn : i < YL.2.2.1) (hl : m_st1 i (.int v) lv = lv') (k : LW S (pc + 3) lv' st I J R n) : LW S pc lv st I J R n :=
  fun p l e s m ba below meth c b X D cA hF H locs lsr hN => lv_iinc (lv' := m_lvc (m_ad b X) lv') hF.1 hF.2.1 hd hN.2.2.1 (m_lvc_get hk) hv hn (by subst hl; exact m_st1_c (v := .int v)) (fun lsr hl2 => k p l e s m ba below meth c b X D cA hF H locs lsr ⟨hN.1, hN.2.1, hl2, hN.2.2.2⟩)
theorem l_sald {j : Int32} (hd : decode YL.2.1 pc = .ok (.iaload, 1)) (hin : vp_in j S.1) (kk : LW S (pc + 1) lv (.int (S.2 j.toNatClampNeg) :: st) I J R n) : LW S pc lv (.int j :: .ref 1000000 :: st) I J R n := by
  intro p l e s m ba below meth c b X D cA hF H locs lsr hN
  exact va_ti (v := .int (S.2 j.toNatClampNeg)) hF.1 hF.2.1 hF.2.2.2.2.2.2.2.2.1.2.1.1 hN.2.1 hin rfl hd (kk p l e s m ba below meth c b X D cA hF H locs lsr hN)
theorem l_slen {v : Int32} (hd : decode YL.2.1 pc = .ok (.arraylength, 1)) (hv : Int32.ofNat S.1 = v) (kk : LW S (pc + 1) lv (.int v :: st) I J R n) : LW S pc lv (.ref 1000000 :: st) I J R n := by
  intro p l e s m ba below meth c b X D cA hF H locs lsr hN
  exact va_tlen hF.1 hF.2.1 hF.2.2.2.2.2.2.2.2.1.2.1.1 hN.2.1 hv hd (kk p l e s m ba below meth c b X D cA hF H locs lsr hN)
end LR
section LN
variable {S : Nat × (Nat → Int32)} {pc idx k n' : Nat} {Y' : mY} {Q' : Option Value → mI → mJ → mR → Prop} {lv lv' : List (Nat × Value)} {st stk as : List Value} {I : mI} {J : mJ} {R : mR} {n : Nat}
theorem l_grow {p : Program} {l : Launch} {e : Env} {s : State} {m : MethodId} {ba : Nat} {below : List Frame} {meth : Method} {c : Code} {b : Nat} {X : Nat → Nat} {D : va_G} {cA : Nat → ClassId} {H : Heap} {locs : List Loc} {lsr : Array Slot} {pc' N q : Nat} {en : va_E} {H1 : Heap} (hF : m_fix S YL p s m #[Value.ref ba] meth c b X D cA 0) (hN : m_now YL s b X D cA 0 lv I J R n H locs lsr) (hl : (m_lay n).2 = N) (h6 : n + 1 ≤ 1000000) (he : m_ent (m_ad b X) cA (m_row I n (fun _ => 0)) (m_row J n (fun _ => 0)) (m_row R n (fun _ => none)) n = en)
    (hP1 : va_P D m_cl (m_ws (m_ad b X) cA I J R n ++ [(q, en)]) H1) (hD1 : va_D (m_A b) (m_ws (m_ad b X) cA I J R n ++ [(q, en)])) (hS1 : va_S (m_A b) s.heap H1 locs)
    (kk : LW S pc' lv (.ref n :: st) (m_row I n (fun _ => 0)) (m_row J n (fun _ => 0)) (m_row R n (fun _ => none)) (n + 1)) : W p l e room_1 s m #[Value.ref ba] below meth c H1 locs (n + 1) (m_sl n + N) (lw_Z below #[Value.ref ba] s) (F0 m pc' lsr (.ref q :: st.map (m_cv (m_ad b X)))) := by
  have hsz := hF.2.2.2.2.2.2.2.2.2
  have hn0 := hN.2.2.2
  refine m_szU (fun hu => ?_)
  have gq : (m_ws (m_ad b X) cA I J R n ++ [(q, en)])[n]? = some (q, en) := by
    rw [List.getElem?_append_right (by rw [m_ws_len]; exact Nat.le_refl _), m_ws_len, Nat.sub_self]
    rfl
  have q1 : b ≤ q := hD1.2 n _ gq
  have q2 : q < H1.size := (hP1 n _ gq).lt
  have q3 : ∀ i, i < n → q ≠ b + i := by
    intro i hi hqi
    have gi : (m_ws (m_ad b X) cA I J R n ++ [(q, en)])[i]? = some (m_ad b X i, m_ent (m_ad b X) cA I J R i) := by
      rw [List.getElem?_append_left (by rw [m_ws_len]; exact hi), m_ws_get hi]
    have := hD1.1 i n _ _ gi gq (by show m_ad b X i = q; rw [m_ad_lt (by omega), hqi])
    omega
  have hq : q = m_ad b X n := by
    rw [m_ad_lt (by omega)]
    rcases Nat.lt_or_ge q (b + n) with h | h
    · exact absurd (by omega) (q3 (q - b) (by omega))
    · omega
  subst hq
  have hws : m_ws (m_ad b X) cA I J R n ++ [(m_ad b X n, en)] = m_ws (m_ad b X) cA (m_row I n (fun _ => 0)) (m_row J n (fun _ => 0)) (m_row R n (fun _ => none)) (n + 1) := by
    rw [m_ws_succ, he]
    congr 1
    exact m_ws_eq (fun i hi => (m_ent_o (m_row_ne (by omega)) (m_row_ne (by omega)) (m_row_ne (by omega))).symm)
  rw [hws] at hP1
  have hsl := m_sl_succ n
  
  refine W.cs rfl (show m_sl n + N = m_sl (n + 1) by omega) ?_
  have hlow := m_low h6 hP1 (by have := hS1.1; omega)
  refine kk p l e s m ba below meth c b X D cA hF H1 locs lsr ⟨⟨by omega, h6, hP1, fun j hj k => ?_⟩, hS1, hN.2.2.1, by omega⟩
  by_cases hjn : j = n
  · subst hjn
    rw [m_row_eq]
    rfl
  · rw [m_row_ne hjn]
    exact hN.1.2.2.2 j hj k
theorem m_sl236 {n : Nat} (h : n ≤ 236) : m_sl n ≤ 100000 := Nat.le_trans (m_sl_mono h) (by decide +kernel)
theorem l_new {ci N : Nat} (hd : decode YL.2.1 pc = .ok (.new idx, 3)) (hk : m_kl YL.1.cls idx ci N) (hl : m_lay n = (ci, N)) (hn : n + 1 ≤ 236) (kk : LW S (pc + 3) lv (.ref n :: st) (m_row I n (fun _ => 0)) (m_row J n (fun _ => 0)) (m_row R n (fun _ => none)) (n + 1)) : LW S pc lv st I J R n := by
  intro p l e s m ba below meth c b X D cA hF H locs lsr hN
  have hts := hF.2.2.2.2.2.2.2.1
  have hsz := hF.2.2.2.2.2.2.2.2.2
  obtain ⟨C, T, ty, hc, hw, hty, hdf, hcl, hins, hini, h50⟩ := hk
  have hl2 : (m_lay n).2 = N := by rw [hl]
  have hs1 := m_sl_succ n
  have hs2 := m_sl236 hn
  refine va_new (fs := m_fs (m_ad b X) (m_row I n (fun _ => 0)) (m_row J n (fun _ => 0)) (m_row R n (fun _ => none)) ci N n) hF.1 hF.2.1 hts hw ty hty hF.2.2.2.2.2.1 (hts _ hcl) (hts _ hins) (hts _ hini) hF.2.2.2.2.2.2.2.2.1.1 hN.1.2.2.1 (m_ws_D hN.1.2.1) hN.2.1 (fun q h => by show b ≤ q; omega) hc (fun j hj => ?_) (show n + 1 ≤ 600000 by omega) (show m_sl n + N ≤ 7302250 by omega) hd (fun q H1 hP1 hD1 hS1 => ?_)
  · rw [hdf j hj]
    unfold vp_V
    rw [List.getD_eq_getElem?_getD, m_fs_get hj, m_row_eq, m_row_eq, m_row_eq]
    exact m_fv_none
  · exact l_grow hF hN hl2 (by omega) (m_entO hl h50) hP1 hD1 hS1 kk
theorem l_step {p : Program} {l : Launch} {e : Env} {s : State} {m : MethodId} {ba : Nat} {below : List Frame} {meth : Method} {c : Code} {b : Nat} {X : Nat → Nat} {D : va_G} {cA : Nat → ClassId} {H : Heap} {locs : List Loc} {lsr : Array Slot} {a : Array Value} {st0 : List Value} (hF : m_fix S YL p s m #[Value.ref ba] meth c b X D cA 0) (hN : m_now YL s b X D cA 0 lv I J R n H locs lsr) (h1 : n ≤ n')
    (hr : va_Run p l e room_1 s m #[Value.ref ba] below meth c H locs n (m_sl n) (n' - n) (m_sl n' - m_sl n) (F0 m pc lsr st0) (st.map (m_cv (m_ad b X))) (m_Qc b X D cA n' Q' a) (m_A b))
    (kk : ∀ (v : Option Value) (I' : mI) (J' : mJ) (R' : mR), Q' v I' J' R' → LW S (pc + 3) lv (v.toList ++ st) I' J' R' n') :
    W p l e room_1 s m #[Value.ref ba] below meth c H locs n (m_sl n) (lw_Z below #[Value.ref ba] s) (F0 m pc lsr st0) := by
  refine m_back hr hN.2.1 (fun v I' J' R' H1 locs1 hq hat hS => ?_)
  have w := kk v I' J' R' hq p l e s m ba below meth c b X D cA hF H1 locs1 lsr ⟨hat, hS, hN.2.2.1, Nat.zero_le _⟩
  have e1 : n + (n' - n) = n' := by omega
  have e2 : m_sl n + (m_sl n' - m_sl n) = m_sl n' := by have := m_sl_mono h1; omega
  refine W.cs e1 e2 ?_
  have e3 : (v.map (m_cv (m_ad b X))).toList ++ st.map (m_cv (m_ad b X)) = (v.toList ++ st).map (m_cv (m_ad b X)) := by cases v <;> rfl
  rw [e3]
  exact w
theorem l_fits (h1 : n ≤ n') (h2 : n' ≤ 236) : n + (n' - n) ≤ room_1.cells ∧ m_sl n + (m_sl n' - m_sl n) ≤ room_1.slots := by
  have a2 := m_sl_mono h1
  have a3 := m_sl236 h2
  exact ⟨by show n + (n' - n) ≤ 600000; omega, by show m_sl n + (m_sl n' - m_sl n) ≤ 7302250; omega⟩
theorem l_room {d : Nat} {Y' : mY} (h : d ≤ 1000) (hY : Y'.2.2.1 ≤ 45) : (m_room d n n').frames + 1 ≤ room_1.frames ∧ 8 + (Y'.2.2.1 + 11) + (m_room d n n').locals ≤ room_1.locals := ⟨by show d + 1 ≤ 2048; omega, by show 8 + (Y'.2.2.1 + 11) + 64 * d ≤ 84000; omega⟩
theorem l_callV {d i ci N : Nat} {q : vw_C} (hd : decode YL.2.1 pc = .ok (.invokevirtual idx, 3)) (hm : m_mV YL.1.cls idx Y' k) (has : as.length = k) (hsl : (lg_sl (.ref i :: as)).length ≤ Y'.2.2.1) (hl : m_lay i = (ci, N)) (hc : m_cl[ci]? = some q) (hq : q.1 = Y'.1.cls) (h50 : ci < 50) (hi : i < n) (hst : (st.map fun v => v.category).sum ≤ 8) (hstk : stk = as.reverse ++ .ref i :: st) (h1 : n ≤ n') (h2 : n' ≤ 236) (hdd : d ≤ 1000)
    (ca : AW S d Y' n n' Q' 0 (lv_args 0 (.ref i :: as)) [] I J R n)
    (kk : ∀ (v : Option Value) (I' : mI) (J' : mJ) (R' : mR), Q' v I' J' R' → LW S (pc + 3) lv (v.toList ++ st) I' J' R' n') : LW S pc lv stk I J R n := by
  subst hstk
  intro p l e s m ba below meth c b X D cA hF H locs lsr hN
  obtain ⟨hx, hb, hr, hlo, hml, hown, hnm, hts, hC, hsz⟩ := id hF
  obtain ⟨hlk, hins, hsel, hok⟩ := hm
  have hcb := callB_of (R := room_1) (rm := m_room d n n') (mc := n' - n) (ms := m_sl n' - m_sl n) k hts (m_good hok) rfl rfl rfl (hts _ hok.2.1) (hts _ hlk) hok.2.2.2.1 (l_room hdd hok.2.2.2.2)
  have hrun := va_runV (locs := locs) (e := e) (below := below) (meth := meth) (cells := n) (slots := m_sl n) (g := F0 m pc lsr ((as.reverse ++ .ref i :: st).map (m_cv (m_ad b X)))) (As := as.map (m_cv (m_ad b X))) (rest := st.map (m_cv (m_ad b X))) ⟨hx, hb, hml, hown, hts⟩ (m_met l b X D cA hok hsl ca) ⟨hcb, hts _ hins, hts _ hsel⟩
    ⟨m_Pc_blind, by rw [← hq]; exact va_recv hC.1 hN.1.2.2.1 hc (by rw [m_ws_get hi, m_entO hl h50]), m_pre hF hN (.ref i :: as)⟩ rfl (by rw [List.length_map]; exact has) hN.2.2.1.1 (by simp [m_cv]) (lv_room (by rw [m_cats]; exact hst)) hd (l_fits h1 h2)
  exact l_step hF hN h1 hrun kk
theorem l_callI {d i : Nat} (hd : decode YL.2.1 pc = .ok (.invokespecial idx, 3)) (hm : m_mI YL.1.cls idx Y' k) (has : as.length = k) (hsl : (lg_sl (.ref i :: as)).length ≤ Y'.2.2.1) (hst : (st.map fun v => v.category).sum ≤ 8) (hstk : stk = as.reverse ++ .ref i :: st) (h1 : n ≤ n') (h2 : n' ≤ 236) (hdd : d ≤ 1000)
    (ca : AW S d Y' n n' Q' 0 (lv_args 0 (.ref i :: as)) [] I J R n)
    (kk : ∀ (v : Option Value) (I' : mI) (J' : mJ) (R' : mR), Q' v I' J' R' → LW S (pc + 3) lv (v.toList ++ st) I' J' R' n') : LW S pc lv stk I J R n := by
  subst hstk
  intro p l e s m ba below meth c b X D cA hF H locs lsr hN
  obtain ⟨hx, hb, hr, hlo, hml, hown, hnm, hts, hC, hsz⟩ := id hF
  obtain ⟨hlk, hins, hni, hret, hok⟩ := hm
  have hcb := callB_of (R := room_1) (rm := m_room d n n') (mc := n' - n) (ms := m_sl n' - m_sl n) k hts (m_good hok) rfl rfl rfl (hts _ hok.2.1) (hts _ hlk) hok.2.2.2.1 (l_room hdd hok.2.2.2.2)
  have hM := m_met l b X D cA hok hsl ca
  rw [hret] at hcb hM
  have hrun := va_runI (locs := locs) (e := e) (below := below) (meth := meth) (cells := n) (slots := m_sl n) (b := m_ad b X i) (g := F0 m pc lsr ((as.reverse ++ .ref i :: st).map (m_cv (m_ad b X)))) (As := as.map (m_cv (m_ad b X))) (rest := st.map (m_cv (m_ad b X))) ⟨hx, hb, hml, hown, hts⟩ hM ⟨hcb, hni, hts _ hins⟩
    ⟨m_Pc_blind, m_pre hF hN (.ref i :: as)⟩ rfl (by rw [List.length_map]; exact has) hN.2.2.1.1 (by simp [m_cv]) (lv_room (by rw [m_cats]; exact hst)) hd (l_fits h1 h2)
  exact l_step hF hN h1 hrun kk
/-- the law's end -/
theorem l_end (hd : decode YL.2.1 pc = .ok (.ireturn, 1)) (hn : n ≤ 236) : LW S pc lv [.int 1] I J R n := by
  intro p l e s m ba below meth c b X D cA hF H locs lsr hN
  obtain ⟨hx, hb, hr, hlo, hml, hown, hnm, hts, hC, hsz⟩ := id hF
  have hs2 := m_sl236 hn
  refine va_forget (fun q hq => by have := hN.2.1.2.2 q hq; show s.heap.size ≤ q.base; have h3 : b ≤ q.base := this; omega) ?_
  refine W.widen (k := 600000) (n := 7302250) (by omega) (by omega) ?_
  exact lw_ret hx hb hr hlo hd
end LN
/-- the law's own start -/
theorem l_start {p : Program} {e : Env} {s : State} {m : MethodId} {below : List Frame} {meth : Method} {c : Code} (l : Launch) {b L : Nat} {xs : Nat → Int32} (hL : L ≤ 3072) (hnm : meth.name = x.name) (C0 : lw_At p s m meth c b L xs) (h : LW (L, xs) 0 [(0, .ref 1000000)] [] (fun _ _ => 0) (fun _ _ => 0) (fun _ _ => none) 0) : W p l e room_1 s m #[Value.ref b] below meth c s.heap [] 0 0 (lw_Z below #[Value.ref b] s) (entryFrame m ([Value.ref b] : List Value).toArray 4) := by
  obtain ⟨X, D, cA, hcar, eX⟩ := lw_car hL C0
  obtain ⟨hx, hb, hr, hml, hown, hts, hX, hbl, hlocks, hgv⟩ := id C0
  have hl := lv_entry ([.ref b]) (n := 4) (Nat.le_of_ble_eq_true rfl)
  rw [lg_entry_eq]
  generalize (lg_sl ([.ref b]) ++ List.replicate (4 - (lg_sl ([.ref b])).length) Slot.unset).toArray = ls at hl ⊢
  have hl : lv_has ls 4 [(0, .ref b)] := hl
  have e0 : m_ad s.heap.size X 1000000 = b := by rw [m_adX (Nat.le_refl _)]; exact eX
  refine h p l e s m b below meth c s.heap.size X D cA ⟨hx, hb, hr, hlocks, hml, hown, hnm, lw_gd hts, hcar, rfl⟩ s.heap [] ls ⟨⟨rfl, by decide, fun k q hk => by simp [m_ws] at hk, fun i hi k => rfl⟩, va_S.rf, ?_, Nat.le_refl _⟩
  show lv_has ls 4 [(0, .ref (m_ad s.heap.size X 1000000))]
  rw [e0]; exact hl
/-- only what is made counts -/
def cuM {α : Type} (z : α) (I : Nat → Nat → α) (n : Nat) : Nat → Nat → α := fun i => if i < n then I i else fun _ => z
theorem cuM_lt {α : Type} {z : α} {I : Nat → Nat → α} {n i : Nat} (h : i < n) : cuM z I n i = I i := if_pos h
theorem cuM_ge {α : Type} {z : α} {I : Nat → Nat → α} {n i : Nat} (h : n ≤ i) : cuM z I n i = fun _ => z := if_neg (by omega)
theorem cu_zr {I : mI} {J : mJ} {R : mR} {n : Nat} : zr (cuM 0 I n) (cuM 0 J n) (cuM none R n) n := fun i hi => ⟨cuM_ge hi, cuM_ge hi, cuM_ge hi⟩
theorem cu_at {b : Nat} {X : Nat → Nat} {D : va_G} {cA : Nat → ClassId} {I : mI} {J : mJ} {R : mR} {n : Nat} {H : Heap} (h : m_at b X D cA I J R n H) : m_at b X D cA (cuM 0 I n) (cuM 0 J n) (cuM none R n) n H := by
  refine ⟨h.1, h.2.1, ?_, fun i hi k => ?_⟩
  · rw [m_ws_eq (fun i hi => m_ent_o (cuM_lt hi) (cuM_lt hi) (cuM_lt hi))]
    exact h.2.2.1
  · by_cases c : i < n
    · rw [cuM_lt c]; exact h.2.2.2 i hi k
    · rw [cuM_ge (by omega)]; rfl
theorem l_cut {S : Nat × (Nat → Int32)} {pc : Nat} {lv : List (Nat × Value)} {st : List Value} {I : mI} {J : mJ} {R : mR} {n : Nat} (k : m_fit I → LW S pc lv st (cuM 0 I n) (cuM 0 J n) (cuM none R n) n) : LW S pc lv st I J R n := fun p l e s m ba below meth c b X D cA hF H locs lsr hN => k hN.1.2.2.2 p l e s m ba below meth c b X D cA hF H locs lsr ⟨cu_at hN.1, hN.2⟩
