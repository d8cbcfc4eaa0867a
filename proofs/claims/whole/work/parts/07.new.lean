section MU
variable {p : Program} {l : Launch} {e : Env} {R : Room} {s : State} {m : MethodId} {args : Array Value} {below : List Frame} {meth : Method} {c : Code} {H : Heap} {locs : List Loc} {cells slots : Nat} {Q : State → Prop} {g : JFrame}
theorem m_szU (k : H.size ≤ s.heap.size + cells → W p l e R s m args below meth c H locs cells slots Q g) : W p l e R s m args below meth c H locs cells slots Q g := by
  intro T hT X
  refine k ?_ T hT X
  have h2 : (T.setVm s.vm).heap.size ≤ s.heap.size + cells := X.same.2.2.1
  have h3 : (T.setVm s.vm).heap = H := hT
  rw [h3] at h2
  exact h2
end MU
/-- a class that can be made -/
def m_kl (own : String) (idx ci N : Nat) : Prop := ∃ (C : String) (T : u_T) (ty : Nat → FieldType), m_cl[ci]? = some (C, T, N) ∧ (∀ w ∈ u_ws C T N, w ∈ m_gd) ∧ (∀ j, j < N → parseFieldDescriptor (T j).2.2.1 = some (ty j)) ∧ (∀ j, j < N → defaultValue (ty j) = m_fv (fun _ => 0) (m_sty ci j) 0 0 none) ∧ Cond.classLink own idx C ∈ m_gd ∧ Cond.instantiable C N ∈ m_gd ∧ Cond.initialized C ∈ m_gd ∧ ci < 50
theorem m_fv_none {ad ad' : Nat → Nat} {t : Nat} {x : Int32} {y : Int64} : m_fv ad t x y none = m_fv ad' t x y none := by
  unfold m_fv
  split <;> rfl
section MN
variable {S : Nat × (Nat → Int32)} {d : Nat} {Y : mY} {n0 nf : Nat} {Q : Option Value → mI → mJ → mR → Prop} {pc idx : Nat} {lv lv' : List (Nat × Value)} {st stk : List Value} {I : mI} {J : mJ} {R : mR} {n : Nat}
/-- what comes behind a new cell -/
theorem m_grow {p : Program} {l : Launch} {e : Env} {s : State} {m : MethodId} {args : Array Value} {below : List Frame} {meth : Method} {c : Code} {b : Nat} {X : Nat → Nat} {D : va_G} {cA : Nat → ClassId} {H : Heap} {locs : List Loc} {lsr : Array Slot} {pc' N q : Nat} {en : va_E} {H1 : Heap} (hF : m_fix S Y p s m args meth c b X D cA n0) (hN : m_now Y s b X D cA n0 lv I J R n H locs lsr) (hl : (m_lay n).2 = N) (h6 : n + 1 ≤ 1000000) (he : m_ent (m_ad b X) cA (m_row I n (fun _ => 0)) (m_row J n (fun _ => 0)) (m_row R n (fun _ => none)) n = en)
    (hP1 : va_P D m_cl (m_ws (m_ad b X) cA I J R n ++ [(q, en)]) H1) (hD1 : va_D (m_A b) (m_ws (m_ad b X) cA I J R n ++ [(q, en)])) (hS1 : va_S (m_A b) s.heap H1 locs)
    (kk : AW S d Y n0 nf Q pc' lv (.ref n :: st) (m_row I n (fun _ => 0)) (m_row J n (fun _ => 0)) (m_row R n (fun _ => none)) (n + 1)) : W p l e (m_room d n0 nf) s m args below meth c H1 locs (n - n0 + 1) (m_sl n - m_sl n0 + N) (MQ below (m_Qc b X D cA nf Q) args s (nf - n0) (m_sl nf - m_sl n0) (m_A b)) (F0 m pc' lsr (.ref q :: st.map (m_cv (m_ad b X)))) := by
  have hsz := hF.2.2.2.2.2.2.2.2.2
  have hn0 := hN.2.2.2
  refine m_szU (fun hu => ?_)
  have gq : (m_ws (m_ad b X) cA I J R n ++ [(q, en)])[n]? = some (q, en) := by
    rw [List.getElem?_append_right (by rw [m_ws_len]; exact Nat.le_refl _), m_ws_len, Nat.sub_self]
    rfl
  have q1 : b ≤ q := hD1.2 n _ gq
  have q2 : q < H1.size := (hP1 n _ gq).lt
  have q3 : ∀ i, i < n → q ≠ b + i := by
    intro i hi hqi
    have gi : (m_ws (m_ad b X) cA I J R n ++ [(q, en)])[i]? = some (m_ad b X i, m_ent (m_ad b X) cA I J R i) := by
      rw [List.getElem?_append_left (by rw [m_ws_len]; exact hi), m_ws_get hi]
    have := hD1.1 i n _ _ gi gq (by show m_ad b X i = q; rw [m_ad_lt (by omega), hqi])
    omega
  have hq : q = m_ad b X n := by
    rw [m_ad_lt (by omega)]
    rcases Nat.lt_or_ge q (b + n) with h | h
    · exact absurd (by omega) (q3 (q - b) (by omega))
    · omega
  subst hq
  have hws : m_ws (m_ad b X) cA I J R n ++ [(m_ad b X n, en)] = m_ws (m_ad b X) cA (m_row I n (fun _ => 0)) (m_row J n (fun _ => 0)) (m_row R n (fun _ => none)) (n + 1) := by
    rw [m_ws_succ, he]
    congr 1
    exact m_ws_eq (fun i hi => (m_ent_o (m_row_ne (by omega)) (m_row_ne (by omega)) (m_row_ne (by omega))).symm)
  rw [hws] at hP1
  have hsl := m_sl_succ n
  have hmo := m_sl_mono hn0
  refine W.cs (show n - n0 + 1 = n + 1 - n0 by omega) (show m_sl n - m_sl n0 + N = m_sl (n + 1) - m_sl n0 by omega) ?_
  have hlow := m_low h6 hP1 (by have := hS1.1; omega)
  refine kk p l e s m args below meth c b X D cA hF H1 locs lsr ⟨⟨by omega, h6, hP1, fun j hj k => ?_⟩, hS1, hN.2.2.1, by omega⟩
  by_cases hjn : j = n
  · subst hjn
    rw [m_row_eq]
    rfl
  · rw [m_row_ne hjn]
    exact hN.1.2.2.2 j hj k
theorem m_room1 {N : Nat} (h0 : n0 ≤ n) (hn : n + 1 ≤ nf) (hl : (m_lay n).2 = N) : n - n0 + 1 ≤ (m_room d n0 nf).cells ∧ m_sl n - m_sl n0 + N ≤ (m_room d n0 nf).slots := by
  have hsl := m_sl_succ n
  have a1 := m_sl_mono h0
  have a2 := m_sl_mono hn
  exact ⟨by show n - n0 + 1 ≤ nf - n0; omega, by show m_sl n - m_sl n0 + N ≤ m_sl nf - m_sl n0; omega⟩
theorem a_new {ci N : Nat} (hd : decode Y.2.1 pc = .ok (.new idx, 3)) (hk : m_kl Y.1.cls idx ci N) (hl : m_lay n = (ci, N)) (hn : n + 1 ≤ nf) (h6 : n + 1 ≤ 1000000) (kk : AW S d Y n0 nf Q (pc + 3) lv (.ref n :: st) (m_row I n (fun _ => 0)) (m_row J n (fun _ => 0)) (m_row R n (fun _ => none)) (n + 1)) : AW S d Y n0 nf Q pc lv st I J R n := by
  intro p l e s m args below meth c b X D cA hF H locs lsr hN
  have hts := hF.2.2.2.2.2.2.2.1
  have hsz := hF.2.2.2.2.2.2.2.2.2
  obtain ⟨C, T, ty, hc, hw, hty, hdf, hcl, hins, hini, h50⟩ := hk
  have hl2 : (m_lay n).2 = N := by rw [hl]
  have hr := m_room1 (d := d) hN.2.2.2 hn hl2
  refine va_new (fs := m_fs (m_ad b X) (m_row I n (fun _ => 0)) (m_row J n (fun _ => 0)) (m_row R n (fun _ => none)) ci N n) hF.1 hF.2.1 hts hw ty hty hF.2.2.2.2.2.1 (hts _ hcl) (hts _ hins) (hts _ hini) hF.2.2.2.2.2.2.2.2.1.1 hN.1.2.2.1 (m_ws_D hN.1.2.1) hN.2.1 (fun q h => by show b ≤ q; omega) hc (fun j hj => ?_) hr.1 hr.2 hd (fun q H1 hP1 hD1 hS1 => ?_)
  · rw [hdf j hj]
    unfold vp_V
    rw [List.getD_eq_getElem?_getD, m_fs_get hj, m_row_eq, m_row_eq, m_row_eq]
    exact m_fv_none
  · exact m_grow hF hN hl2 h6 (m_entO hl h50) hP1 hD1 hS1 kk
theorem a_newa {ty N : Nat} {at0 : ArrayType} {x : Int32} (hd : decode Y.2.1 pc = .ok (.newarray at0, 2)) (ht : (ty = 50 ∧ at0 = .int) ∨ (ty = 51 ∧ at0 = .byte) ∨ (ty = 52 ∧ at0 = .boolean)) (hl : m_lay n = (ty, N)) (hx : ¬ x < 0) (hxN : x.toNatClampNeg = N) (hN4 : N ≤ 100000) (hn : n + 1 ≤ nf) (h6 : n + 1 ≤ 1000000) (kk : AW S d Y n0 nf Q (pc + 2) lv (.ref n :: st) (m_row I n (fun _ => 0)) (m_row J n (fun _ => 0)) (m_row R n (fun _ => none)) (n + 1)) : AW S d Y n0 nf Q pc lv (.int x :: st) I J R n := by
  intro p l e s m args below meth c b X D cA hF H locs lsr hN
  have hts := hF.2.2.2.2.2.2.2.1
  have hsz := hF.2.2.2.2.2.2.2.2.2
  have hK := hF.2.2.2.2.2.2.2.2.1.1
  have hl2 : (m_lay n).2 = N := by rw [hl]
  have hr := m_room1 (d := d) hN.2.2.2 hn hl2
  rcases ht with ⟨rfl, rfl⟩ | ⟨rfl, rfl⟩ | ⟨rfl, rfl⟩
  · refine va_newa (ty := .int) (a0 := (N, .inl (fun _ => 0))) hF.1 hF.2.1 (hts _ (m_in (i := 116) (by decide +kernel) rfl)) rfl hK hN.1.2.2.1 (m_ws_D hN.1.2.1) hN.2.1 (fun q h => by show b ≤ q; omega) (fun _ => rfl) hx hxN (by show N * 4 ≤ _; omega) hr.1 hr.2 hd (fun q cA' H1 hK1 hP1 hD1 hS1 => ?_)
    have e1 : cA' = cA 50 := Option.some.inj ((hK1.2 7 (cA', .int) rfl).2.symm.trans (hK.2 0 (cA 50, .int) rfl).2)
    subst e1
    exact m_grow hF hN hl2 h6 (by rw [m_entI hl (by omega) (by omega), m_row_eq]) hP1 hD1 hS1 kk
  · refine va_newa (ty := .byte) (a0 := (N, .inl (fun _ => 0))) hF.1 hF.2.1 (hts _ (m_in (i := 115) (by decide +kernel) rfl)) rfl hK hN.1.2.2.1 (m_ws_D hN.1.2.1) hN.2.1 (fun q h => by show b ≤ q; omega) (fun _ => rfl) hx hxN (by show N * 1 ≤ _; omega) hr.1 hr.2 hd (fun q cA' H1 hK1 hP1 hD1 hS1 => ?_)
    have e1 : cA' = cA 51 := Option.some.inj ((hK1.2 7 (cA', .byte) rfl).2.symm.trans (hK.2 1 (cA 51, .byte) rfl).2)
    subst e1
    exact m_grow hF hN hl2 h6 (by rw [m_entI hl (by omega) (by omega), m_row_eq]) hP1 hD1 hS1 kk
  · refine va_newa (ty := .boolean) (a0 := (N, .inl (fun _ => 0))) hF.1 hF.2.1 (hts _ (m_in (i := 1352) (by decide +kernel) rfl)) rfl hK hN.1.2.2.1 (m_ws_D hN.1.2.1) hN.2.1 (fun q h => by show b ≤ q; omega) (fun _ => rfl) hx hxN (by show N * 1 ≤ _; omega) hr.1 hr.2 hd (fun q cA' H1 hK1 hP1 hD1 hS1 => ?_)
    have e1 : cA' = cA 52 := Option.some.inj ((hK1.2 7 (cA', .boolean) rfl).2.symm.trans (hK.2 2 (cA 52, .boolean) rfl).2)
    subst e1
    exact m_grow hF hN hl2 h6 (by rw [m_entI hl (by omega) (by omega), m_row_eq]) hP1 hD1 hS1 kk
theorem a_newq {ty N : Nat} {C : String} {x : Int32} (hd : decode Y.2.1 pc = .ok (.anewarray idx, 3)) (hC : C ∈ m_aos) (hcl : Cond.classLink Y.1.cls idx C ∈ m_gd) (hty : ∀ cA, (m_tys cA)[ty - 50]? = some (cA ty, .object C)) (h53 : 53 ≤ ty) (hl : m_lay n = (ty, N)) (hx : ¬ x < 0) (hxN : x.toNatClampNeg = N) (hN4 : N ≤ 100000) (hn : n + 1 ≤ nf) (h6 : n + 1 ≤ 1000000) (kk : AW S d Y n0 nf Q (pc + 3) lv (.ref n :: st) (m_row I n (fun _ => 0)) (m_row J n (fun _ => 0)) (m_row R n (fun _ => none)) (n + 1)) : AW S d Y n0 nf Q pc lv (.int x :: st) I J R n := by
  intro p l e s m args below meth c b X D cA hF H locs lsr hN
  have hts := hF.2.2.2.2.2.2.2.1
  have hsz := hF.2.2.2.2.2.2.2.2.2
  have hK := hF.2.2.2.2.2.2.2.2.1.1
  have hl2 : (m_lay n).2 = N := by rw [hl]
  have hr := m_room1 (d := d) hN.2.2.2 hn hl2
  refine va_newq hF.1 hF.2.1 hF.2.2.2.2.2.1 (hts _ hcl) (hF.2.2.2.2.2.2.2.2.1.2.2.2.2 C hC) hK hN.1.2.2.1 (m_ws_D hN.1.2.1) hN.2.1 (fun q h => by show b ≤ q; omega) hx hxN (by omega) hr.1 hr.2 hd (fun q cA' H1 hK1 hP1 hD1 hS1 => ?_)
  have e1 : cA' = cA ty := by
    obtain ⟨_, _, _, _, _, h4⟩ := (hK1.2 7 (cA', .object C) rfl).2
    obtain ⟨_, _, _, _, _, h5⟩ := (hK.2 _ _ (hty cA)).2
    exact Option.some.inj (h4.symm.trans h5)
  subst e1
  exact m_grow hF hN hl2 h6 (by rw [m_entR hl h53, m_row_eq]; rfl) hP1 hD1 hS1 kk
/-- texts, and the two static tables -/
theorem m_adX {b : Nat} {X : Nat → Nat} {i : Nat} (h : 1000000 ≤ i) : m_ad b X i = X i := by simp [m_ad, Nat.not_lt.mpr h]
theorem a_ldcS {i : Nat} {tx : String} (hd : decode Y.2.1 pc = .ok (.ldc idx, 2)) (hY : Y.1.cls = "SortedOffice$Reader") (hs : m_strs[i]? = some (idx, tx)) (kk : AW S d Y n0 nf Q (pc + 2) lv (.ref (1000010 + i) :: st) I J R n) : AW S d Y n0 nf Q pc lv st I J R n := by
  intro p l e s m args below meth c b X D cA hF H locs lsr hN
  have w := kk p l e s m args below meth c b X D cA hF H locs lsr hN
  have e1 : (Value.ref (1000010 + i) :: st).map (m_cv (m_ad b X)) = .ref (X (1000010 + i)) :: st.map (m_cv (m_ad b X)) := by
    show Value.ref (m_ad b X (1000010 + i)) :: _ = _
    rw [m_adX (by omega)]
  rw [e1] at w
  exact va_ldcS hF.1 hF.2.1 (by rw [← hY]; exact hF.2.2.2.2.2.1) (hF.2.2.2.2.2.2.2.2.1.2.2.1 i _ hs) hd w
theorem a_getsL (hd : decode Y.2.1 pc = .ok (.getstatic idx, 3)) (hm : Cond.fieldLink Y.1.cls idx "SortedOffice$Reader" "LEAST" "[I" ∈ m_gd) (kk : AW S d Y n0 nf Q (pc + 3) lv (.ref 1000001 :: st) I J R n) : AW S d Y n0 nf Q pc lv st I J R n := by
  intro p l e s m args below meth c b X D cA hF H locs lsr hN
  exact va_gets (v := .ref (X 1000001)) hF.1 hF.2.1 hF.2.2.2.2.2.2.2.2.1.2.1.2.1.1 hN.2.1 hF.2.2.2.2.2.1 (hF.2.2.2.2.2.2.2.1 _ hm) (fun _ h => h) hd (kk p l e s m args below meth c b X D cA hF H locs lsr hN)
theorem a_getsM (hd : decode Y.2.1 pc = .ok (.getstatic idx, 3)) (hm : Cond.fieldLink Y.1.cls idx "SortedOffice$Reader" "MOST" "[I" ∈ m_gd) (kk : AW S d Y n0 nf Q (pc + 3) lv (.ref 1000002 :: st) I J R n) : AW S d Y n0 nf Q pc lv st I J R n := by
  intro p l e s m args below meth c b X D cA hF H locs lsr hN
  exact va_gets (v := .ref (X 1000002)) hF.1 hF.2.1 hF.2.2.2.2.2.2.2.2.1.2.1.2.2.1.1 hN.2.1 hF.2.2.2.2.2.1 (hF.2.2.2.2.2.2.2.1 _ hm) (fun _ h => h) hd (kk p l e s m args below meth c b X D cA hF H locs lsr hN)
theorem a_getsC (hd : decode Y.2.1 pc = .ok (.getstatic idx, 3)) (hm : Cond.fieldLink Y.1.cls idx "java/lang/String" "COMPACT_STRINGS" "Z" ∈ m_gd) (kk : AW S d Y n0 nf Q (pc + 3) lv (.int 1 :: st) I J R n) : AW S d Y n0 nf Q pc lv st I J R n := by
  intro p l e s m args below meth c b X D cA hF H locs lsr hN
  exact va_gets (v := .int 1) hF.1 hF.2.1 hF.2.2.2.2.2.2.2.2.1.2.1.2.2.2.1.1 hN.2.1 hF.2.2.2.2.2.1 (hF.2.2.2.2.2.2.2.1 _ hm) (fun _ h => h) hd (kk p l e s m args below meth c b X D cA hF H locs lsr hN)
theorem a_getsF (hd : decode Y.2.1 pc = .ok (.getstatic idx, 3)) (hm : Cond.fieldLink Y.1.cls idx "jdk/internal/util/Preconditions" "SIOOBE_FORMATTER" "Ljava/util/function/BiFunction;" ∈ m_gd) (k1 : AW S d Y n0 nf Q (pc + 3) lv (.null :: st) I J R n) (k2 : AW S d Y n0 nf Q (pc + 3) lv (.ref 1000003 :: st) I J R n) : AW S d Y n0 nf Q pc lv st I J R n := by
  intro p l e s m args below meth c b X D cA hF H locs lsr hN
  rcases hF.2.2.2.2.2.2.2.2.1.2.1.2.2.2.1.2 with hz | hz
  · exact va_gets (v := .null) hF.1 hF.2.1 hz hN.2.1 hF.2.2.2.2.2.1 (hF.2.2.2.2.2.2.2.1 _ hm) (fun _ h => h) hd (k1 p l e s m args below meth c b X D cA hF H locs lsr hN)
  · exact va_gets (v := .ref (X 1000003)) hF.1 hF.2.1 hz hN.2.1 hF.2.2.2.2.2.1 (hF.2.2.2.2.2.2.2.1 _ hm) (fun _ h => h) hd (k2 p l e s m args below meth c b X D cA hF H locs lsr hN)
theorem a_taldL {j : Int32} (hd : decode Y.2.1 pc = .ok (.iaload, 1)) (hin : vp_in j 30) (kk : AW S d Y n0 nf Q (pc + 1) lv (.int (m_least.getD j.toNatClampNeg 0) :: st) I J R n) : AW S d Y n0 nf Q pc lv (.int j :: .ref 1000001 :: st) I J R n := by
  intro p l e s m args below meth c b X D cA hF H locs lsr hN
  exact va_ti (v := .int (m_least.getD j.toNatClampNeg 0)) hF.1 hF.2.1 hF.2.2.2.2.2.2.2.2.1.2.1.2.1.2 hN.2.1 hin rfl hd (kk p l e s m args below meth c b X D cA hF H locs lsr hN)
theorem a_taldM {j : Int32} (hd : decode Y.2.1 pc = .ok (.iaload, 1)) (hin : vp_in j 30) (kk : AW S d Y n0 nf Q (pc + 1) lv (.int (m_most.getD j.toNatClampNeg 0) :: st) I J R n) : AW S d Y n0 nf Q pc lv (.int j :: .ref 1000002 :: st) I J R n := by
  intro p l e s m args below meth c b X D cA hF H locs lsr hN
  exact va_ti (v := .int (m_most.getD j.toNatClampNeg 0)) hF.1 hF.2.1 hF.2.2.2.2.2.2.2.2.1.2.1.2.2.1.2 hN.2.1 hin rfl hd (kk p l e s m args below meth c b X D cA hF H locs lsr hN)
theorem m_cvX {b : Nat} {X : Nat → Nat} {i : Nat} (h : 1000000 ≤ i) : m_cv (m_ad b X) (.ref i) = .ref (X i) := by
  show Value.ref (m_ad b X i) = _
  rw [m_adX h]
theorem a_strV {i : Nat} (hd : decode Y.2.1 pc = .ok (.getfield idx, 3)) (hi : i < 19) (hm : Cond.fieldLink Y.1.cls idx "java/lang/String" "value" "[B" ∈ m_gd) (kk : AW S d Y n0 nf Q (pc + 3) lv (.ref (1000050 + i) :: st) I J R n) : AW S d Y n0 nf Q pc lv (.ref (1000010 + i) :: st) I J R n := by
  intro p l e s m args below meth c b X D cA hF H locs lsr hN
  have w := kk p l e s m args below meth c b X D cA hF H locs lsr hN
  rw [List.map_cons, m_cvX (by omega)] at w
  rw [List.map_cons, m_cvX (by omega)]
  exact vk_getf hF.1 hF.2.1 (hF.2.2.2.2.2.2.2.2.1.2.1.2.2.2.2.1 i hi).2.2.1 hN.2.1 hF.2.2.2.2.2.1 (hF.2.2.2.2.2.2.2.1 _ hm) (fun _ h => h) hd w
theorem a_strC {i : Nat} (hd : decode Y.2.1 pc = .ok (.getfield idx, 3)) (hi : i < 19) (hm : Cond.fieldLink Y.1.cls idx "java/lang/String" "coder" "B" ∈ m_gd) (kk : AW S d Y n0 nf Q (pc + 3) lv (.int 0 :: st) I J R n) : AW S d Y n0 nf Q pc lv (.ref (1000010 + i) :: st) I J R n := by
  intro p l e s m args below meth c b X D cA hF H locs lsr hN
  rw [List.map_cons, m_cvX (by omega)]
  exact vk_getf hF.1 hF.2.1 (hF.2.2.2.2.2.2.2.2.1.2.1.2.2.2.2.1 i hi).2.1 hN.2.1 hF.2.2.2.2.2.1 (hF.2.2.2.2.2.2.2.1 _ hm) (fun _ h => h) hd (kk p l e s m args below meth c b X D cA hF H locs lsr hN)
theorem a_strL {i : Nat} {v : Int32} (hd : decode Y.2.1 pc = .ok (.arraylength, 1)) (hi : i < 19) (hv : Int32.ofNat (m_lens.getD i 0) = v) (kk : AW S d Y n0 nf Q (pc + 1) lv (.int v :: st) I J R n) : AW S d Y n0 nf Q pc lv (.ref (1000050 + i) :: st) I J R n := by
  intro p l e s m args below meth c b X D cA hF H locs lsr hN
  rw [List.map_cons, m_cvX (by omega)]
  exact va_tlen hF.1 hF.2.1 (hF.2.2.2.2.2.2.2.2.1.2.1.2.2.2.2.1 i hi).2.2.2 hN.2.1 hv hd (kk p l e s m args below meth c b X D cA hF H locs lsr hN)
theorem a_strB {i : Nat} {j : Int32} (hd : decode Y.2.1 pc = .ok (.baload, 1)) (hi : i < 19) (hin : vp_in j (m_lens.getD i 0)) (kk : AW S d Y n0 nf Q (pc + 1) lv (.int ((m_byts.getD i []).getD j.toNatClampNeg 0) :: st) I J R n) : AW S d Y n0 nf Q pc lv (.int j :: .ref (1000050 + i) :: st) I J R n := by
  intro p l e s m args below meth c b X D cA hF H locs lsr hN
  rw [List.map_cons, List.map_cons, m_cvX (by omega)]
  exact va_tb (v := .int ((m_byts.getD i []).getD j.toNatClampNeg 0)) hF.1 hF.2.1 (hF.2.2.2.2.2.2.2.2.1.2.1.2.2.2.2.1 i hi).2.2.2 hN.2.1 hin rfl hd (kk p l e s m args below meth c b X D cA hF H locs lsr hN)
end MN
section MW
variable {S : Nat × (Nat → Int32)} {d : Nat} {Y Y' : mY} {n0 nf n' : Nat} {Q Q' : Option Value → mI → mJ → mR → Prop} {pc idx k : Nat} {lv lv' : List (Nat × Value)} {st stk as : List Value} {I : mI} {J : mJ} {R : mR} {n : Nat}
/-- invokevirtual on a text -/
theorem a_callT {i : Nat} (hd : decode Y.2.1 pc = .ok (.invokevirtual idx, 3)) (hm : m_mV Y.1.cls idx Y' k) (hY : Y'.1.cls = "java/lang/String") (h19 : i < 19) (has : as.length = k) (hsl : (lg_sl (.ref (1000010 + i) :: as)).length ≤ Y'.2.2.1) (hst : (st.map fun v => v.category).sum ≤ 8) (hstk : stk = as.reverse ++ .ref (1000010 + i) :: st) (h1 : n ≤ n') (h2 : n' ≤ nf)
    (ca : AW S d Y' n n' Q' 0 (lv_args 0 (.ref (1000010 + i) :: as)) [] I J R n)
    (kk : ∀ (v : Option Value) (I' : mI) (J' : mJ) (R' : mR), Q' v I' J' R' → AW S (d + 1) Y n0 nf Q (pc + 3) lv (v.toList ++ st) I' J' R' n') : AW S (d + 1) Y n0 nf Q pc lv stk I J R n := by
  subst hstk
  intro p l e s m args below meth c b X D cA hF H locs lsr hN
  obtain ⟨hx, hb, hr, hlo, hml, hown, hnm, hts, hC, hsz⟩ := id hF
  obtain ⟨hlk, hins, hsel, hok⟩ := hm
  have hcb := callB_of (R := m_room (d + 1) n0 nf) (rm := m_room d n n') (mc := n' - n) (ms := m_sl n' - m_sl n) k hts (m_good hok) rfl rfl rfl (hts _ hok.2.1) (hts _ hlk) hok.2.2.2.1 ⟨Nat.le_refl _, by have := hok.2.2.2.2; show 8 + (Y'.2.2.1 + 11) + 64 * d ≤ 64 * (d + 1); omega⟩
  have hrun := va_runV (locs := locs) (e := e) (below := below) (meth := meth) (cells := n - n0) (slots := m_sl n - m_sl n0) (b := m_ad b X (1000010 + i)) (g := F0 m pc lsr ((as.reverse ++ .ref (1000010 + i) :: st).map (m_cv (m_ad b X)))) (As := as.map (m_cv (m_ad b X))) (rest := st.map (m_cv (m_ad b X))) ⟨hx, hb, hml, hown, hts⟩ (m_met l b X D cA hok hsl ca) ⟨hcb, hts _ hins, hts _ hsel⟩
    ⟨m_Pc_blind, by rw [hY, m_adX (by omega)]; exact vk_recv (adK := fun i => X (1000010 + i)) (i := i) hC.2.1.2.2.2.2 h19 hN.2.1, m_pre hF hN (.ref (1000010 + i) :: as)⟩ rfl (by rw [List.length_map]; exact has) hN.2.2.1.1 (by simp [m_cv]) (lv_room (by rw [m_cats]; exact hst)) hd (m_fits hN.2.2.2 h1 h2 rfl)
  exact m_step hF hN h1 h2 hrun kk
end MW
