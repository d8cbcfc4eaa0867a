theorem m_fits8 {v : Int32} (h : fits .byte (.int v) = true) : v.toInt8.toInt32 = v := by
  simp only [fits, Bool.and_eq_true, decide_eq_true_eq] at h
  have h1 := Int32.le_iff_toInt_le.mp h.1
  have h2 := Int32.le_iff_toInt_le.mp h.2
  have e1 : (-128 : Int32).toInt = -128 := rfl
  have e2 : (127 : Int32).toInt = 127 := rfl
  rw [e1] at h1
  rw [e2] at h2
  apply Int32.toInt_inj.mp
  rw [Int8.toInt_toInt32, Int32.toInt_toInt8]
  exact Int.bmod_eq_of_le (by omega) (by omega)
theorem m_fit8 (v : Int32) : fits .byte (.int v.toInt8.toInt32) = true := by
  simp only [fits, Bool.and_eq_true, decide_eq_true_eq]
  have h1 := Int8.le_toInt v.toInt8
  have h2 := Int8.toInt_lt v.toInt8
  constructor
  · apply Int32.le_iff_toInt_le.mpr
    rw [Int8.toInt_toInt32]
    exact h1
  · apply Int32.le_iff_toInt_le.mpr
    rw [Int8.toInt_toInt32]
    have e2 : (127 : Int32).toInt = 127 := rfl
    rw [e2]
    omega
theorem m_upd {f : Nat → Int32} {k : Nat} {x : Int32} : upd f k x = va_up f k x := rfl
section MA
variable {S : Nat × (Nat → Int32)} {d : Nat} {Y : mY} {n0 nf : Nat} {Q : Option Value → mI → mJ → mR → Prop} {pc idx : Nat} {lv lv' : List (Nat × Value)} {st stk : List Value} {I : mI} {J : mJ} {R : mR} {n : Nat}
/-- int[] -/
theorem a_iald {a N : Nat} {j : Int32} (hd : decode Y.2.1 pc = .ok (.iaload, 1)) (hl : m_lay a = (50, N)) (hi : a < n) (hin : vp_in j N) (kk : AW S d Y n0 nf Q (pc + 1) lv (.int (I a j.toNatClampNeg) :: st) I J R n) : AW S d Y n0 nf Q pc lv (.int j :: .ref a :: st) I J R n := by
  intro p l e s m args below meth c b X D cA hF H locs lsr hN
  exact va_iald hF.1 hF.2.1 hF.2.2.2.2.2.2.2.2.1.1 hN.1.2.2.1 a 0 (by rw [m_ws_get hi, m_entI hl (by omega) (by omega)]) rfl hin hd (kk p l e s m args below meth c b X D cA hF H locs lsr hN)
/-- byte[]: what is read is a byte -/
theorem a_bald {a N : Nat} {j : Int32} (hd : decode Y.2.1 pc = .ok (.baload, 1)) (hl : m_lay a = (51, N)) (hi : a < n) (hin : vp_in j N) (kk : (I a j.toNatClampNeg).toInt8.toInt32 = I a j.toNatClampNeg → AW S d Y n0 nf Q (pc + 1) lv (.int (I a j.toNatClampNeg) :: st) I J R n) : AW S d Y n0 nf Q pc lv (.int j :: .ref a :: st) I J R n := by
  intro p l e s m args below meth c b X D cA hF H locs lsr hN
  have hf := m_fits8 (hN.1.2.2.2 a (by rw [hl]) j.toNatClampNeg)
  exact va_bald hF.1 hF.2.1 hF.2.2.2.2.2.2.2.2.1.1 hN.1.2.2.1 a 1 (by rw [m_ws_get hi, m_entI hl (by omega) (by omega)]) rfl hin hd (kk hf p l e s m args below meth c b X D cA hF H locs lsr hN)
/-- boolean[] -/
theorem a_zald {a N : Nat} {j : Int32} (hd : decode Y.2.1 pc = .ok (.baload, 1)) (hl : m_lay a = (52, N)) (hi : a < n) (hin : vp_in j N) (kk : AW S d Y n0 nf Q (pc + 1) lv (.int (I a j.toNatClampNeg) :: st) I J R n) : AW S d Y n0 nf Q pc lv (.int j :: .ref a :: st) I J R n := by
  intro p l e s m args below meth c b X D cA hF H locs lsr hN
  exact va_zald hF.1 hF.2.1 hF.2.2.2.2.2.2.2.2.1.1 hN.1.2.2.1 a 2 (by rw [m_ws_get hi, m_entI hl (by omega) (by omega)]) rfl hin hd (kk p l e s m args below meth c b X D cA hF H locs lsr hN)
theorem m_wr {p : Program} {l : Launch} {e : Env} {s : State} {m : MethodId} {args : Array Value} {below : List Frame} {meth : Method} {c : Code} {b : Nat} {X : Nat → Nat} {D : va_G} {cA : Nat → ClassId} {H : Heap} {locs : List Loc} {lsr : Array Slot} {a ty N pc' : Nat} {f : Nat → Int32} (hF : m_fix S Y p s m args meth c b X D cA n0) (hN : m_now Y s b X D cA n0 lv I J R n H locs lsr) (hl : m_lay a = (ty, N)) (h1 : 50 ≤ ty) (h2 : ty < 53) (hf : ty = 51 → ∀ k, fits .byte (.int (f k)) = true) (kk : AW S d Y n0 nf Q pc' lv st (m_row I a f) J R n) :
    ∀ (H1 : Heap) (locs1 : List Loc), va_P D m_cl ((m_ws (m_ad b X) cA I J R n).set a (m_ad b X a, .inl (cA ty, N, .inl f))) H1 → va_D (m_A b) ((m_ws (m_ad b X) cA I J R n).set a (m_ad b X a, .inl (cA ty, N, .inl f))) → va_S (m_A b) s.heap H1 locs1 → W p l e (m_room d n0 nf) s m args below meth c H1 locs1 (n - n0) (m_sl n - m_sl n0) (MQ below (m_Qc b X D cA nf Q) args s (nf - n0) (m_sl nf - m_sl n0) (m_A b)) (F0 m pc' lsr (st.map (m_cv (m_ad b X)))) := by
  intro H1 locs1 hP1 hD1 hS1
  have hsz := hF.2.2.2.2.2.2.2.2.2
  have hn6 := hN.1.2.1
  have hn0 := hN.2.2.2
  have hws : (m_ws (m_ad b X) cA I J R n).set a (m_ad b X a, .inl (cA ty, N, .inl f)) = m_ws (m_ad b X) cA (m_row I a f) J R n :=
    m_ws_set (by rw [m_entI hl h1 h2, m_row_eq]) (fun j hj => m_ent_o (m_row_ne hj) rfl rfl)
  rw [hws] at hP1
  have hlow := m_low hn6 hP1 (by have := hS1.1; omega)
  refine m_sz (by omega) (fun hz => ?_)
  refine kk p l e s m args below meth c b X D cA hF H1 locs1 lsr ⟨⟨by omega, hn6, hP1, fun j hj q => ?_⟩, hS1, hN.2.2.1, hn0⟩
  by_cases hja : j = a
  · subst hja
    rw [m_row_eq]
    exact hf (by rw [hl] at hj; exact hj) q
  · rw [m_row_ne hja]
    exact hN.1.2.2.2 j hj q
theorem a_iast {a N : Nat} {j x : Int32} (hd : decode Y.2.1 pc = .ok (.iastore, 1)) (hl : m_lay a = (50, N)) (hi : a < n) (hin : vp_in j N) (kk : AW S d Y n0 nf Q (pc + 1) lv st (m_up I a j.toNatClampNeg x) J R n) : AW S d Y n0 nf Q pc lv (.int x :: .int j :: .ref a :: st) I J R n := by
  intro p l e s m args below meth c b X D cA hF H locs lsr hN
  exact va_iast hF.1 hF.2.1 hF.2.2.2.2.2.2.2.2.1.1 hN.1.2.2.1 (m_ws_D hN.1.2.1) hN.2.1 a 0 (by rw [m_ws_get hi, m_entI hl (by omega) (by omega)]) rfl hin hd (m_wr hF hN hl (by omega) (by omega) (fun h => by omega) kk)
theorem a_bast {a N : Nat} {j x : Int32} (hd : decode Y.2.1 pc = .ok (.bastore, 1)) (hl : m_lay a = (51, N)) (hi : a < n) (hin : vp_in j N) (kk : AW S d Y n0 nf Q (pc + 1) lv st (m_up I a j.toNatClampNeg x.toInt8.toInt32) J R n) : AW S d Y n0 nf Q pc lv (.int x :: .int j :: .ref a :: st) I J R n := by
  intro p l e s m args below meth c b X D cA hF H locs lsr hN
  refine va_bast hF.1 hF.2.1 hF.2.2.2.2.2.2.2.2.1.1 hN.1.2.2.1 (m_ws_D hN.1.2.1) hN.2.1 a 1 (by rw [m_ws_get hi, m_entI hl (by omega) (by omega)]) rfl hin hd ?_
  rw [vp_nar_byte]
  refine m_wr hF hN hl (by omega) (by omega) (fun h k => ?_) kk
  show fits .byte (.int (if k = j.toNatClampNeg then x.toInt8.toInt32 else I a k)) = true
  split
  · exact m_fit8 x
  · exact hN.1.2.2.2 a (by rw [hl]) k
theorem a_zast {a N : Nat} {j x : Int32} (hx : x = 0 ∨ x = 1) (hd : decode Y.2.1 pc = .ok (.bastore, 1)) (hl : m_lay a = (52, N)) (hi : a < n) (hin : vp_in j N) (kk : AW S d Y n0 nf Q (pc + 1) lv st (m_up I a j.toNatClampNeg x) J R n) : AW S d Y n0 nf Q pc lv (.int x :: .int j :: .ref a :: st) I J R n := by
  intro p l e s m args below meth c b X D cA hF H locs lsr hN
  have e1 : vp_nar .boolean x = x := by rcases hx with rfl | rfl <;> rfl
  refine va_zast hF.1 hF.2.1 hF.2.2.2.2.2.2.2.2.1.1 hN.1.2.2.1 (m_ws_D hN.1.2.1) hN.2.1 a 2 (by rw [m_ws_get hi, m_entI hl (by omega) (by omega)]) rfl hin hd ?_
  rw [e1]
  exact m_wr hF hN hl (by omega) (by omega) (fun h => by omega) kk
/-- arrays of references -/
theorem m_tyR (cA : Nat → ClassId) {ty : Nat} (h1 : 53 ≤ ty) (h2 : ty ≤ 56) : ∃ C, (m_tys cA)[ty - 50]? = some (cA ty, .object C) := by
  rcases (show ty = 53 ∨ ty = 54 ∨ ty = 55 ∨ ty = 56 by omega) with rfl | rfl | rfl | rfl <;> exact ⟨_, rfl⟩
theorem a_aald {a N ty r : Nat} {j : Int32} (hd : decode Y.2.1 pc = .ok (.aaload, 1)) (hl : m_lay a = (ty, N)) (h1 : 53 ≤ ty) (h2 : ty ≤ 56) (hi : a < n) (hin : vp_in j N) (hr : R a j.toNatClampNeg = some r) (kk : AW S d Y n0 nf Q (pc + 1) lv (.ref r :: st) I J R n) : AW S d Y n0 nf Q pc lv (.int j :: .ref a :: st) I J R n := by
  intro p l e s m args below meth c b X D cA hF H locs lsr hN
  obtain ⟨C, hC⟩ := m_tyR cA h1 h2
  refine va_aldq hF.1 hF.2.1 hF.2.2.2.2.2.2.2.2.1.1 hN.1.2.2.1 a (ty - 50) (by rw [m_ws_get hi, m_entR hl (by omega)]) hC hin hd ?_
  rw [hr]
  exact kk p l e s m args below meth c b X D cA hF H locs lsr hN
theorem a_aaldN {a N ty : Nat} {j : Int32} (hd : decode Y.2.1 pc = .ok (.aaload, 1)) (hl : m_lay a = (ty, N)) (h1 : 53 ≤ ty) (h2 : ty ≤ 56) (hi : a < n) (hin : vp_in j N) (hr : R a j.toNatClampNeg = none) (kk : AW S d Y n0 nf Q (pc + 1) lv (.null :: st) I J R n) : AW S d Y n0 nf Q pc lv (.int j :: .ref a :: st) I J R n := by
  intro p l e s m args below meth c b X D cA hF H locs lsr hN
  obtain ⟨C, hC⟩ := m_tyR cA h1 h2
  refine va_aldq hF.1 hF.2.1 hF.2.2.2.2.2.2.2.2.1.1 hN.1.2.2.1 a (ty - 50) (by rw [m_ws_get hi, m_entR hl (by omega)]) hC hin hd ?_
  rw [hr]
  exact kk p l e s m args below meth c b X D cA hF H locs lsr hN
theorem a_aast {a N ty ci N2 v : Nat} {q : vw_C} {j : Int32} (hd : decode Y.2.1 pc = .ok (.aastore, 1)) (hl : m_lay a = (ty, N)) (h1 : 53 ≤ ty) (hi : a < n) (hin : vp_in j N) (hlv : m_lay v = (ci, N2)) (h50 : ci < 50) (hc : m_cl[ci]? = some q) (hty : ∀ cA, (m_tys cA)[ty - 50]? = some (cA ty, .object q.1)) (hv : v < n) (kk : AW S d Y n0 nf Q (pc + 1) lv st I J (m_up R a j.toNatClampNeg (some v)) n) : AW S d Y n0 nf Q pc lv (.ref v :: .int j :: .ref a :: st) I J R n := by
  intro p l e s m args below meth c b X D cA hF H locs lsr hN
  have hsz := hF.2.2.2.2.2.2.2.2.2
  have hn6 := hN.1.2.1
  have hn0 := hN.2.2.2
  refine va_astq hF.1 hF.2.1 hF.2.2.2.2.2.2.2.2.1.1 hN.1.2.2.1 (m_ws_D hN.1.2.1) hN.2.1 a (ty - 50) v ci (by rw [m_ws_get hi, m_entR hl (by omega)]) (hty cA) (by rw [m_ws_get hv, m_entO hlv h50]) hc hin hd (fun H1 locs1 hP1 hD1 hS1 => ?_)
  have hws : (m_ws (m_ad b X) cA I J R n).set a (m_ad b X a, .inl (cA ty, N, .inr (.inr (.inr (.inr (va_up (fun k => (R a k).map (m_ad b X)) j.toNatClampNeg (some (m_ad b X v)))))))) = m_ws (m_ad b X) cA I J (m_up R a j.toNatClampNeg (some v)) n := by
    refine m_ws_set ?_ (fun i hi2 => m_ent_o rfl rfl (m_up_ne hi2))
    rw [m_entR hl (by omega), m_up_eq]
    congr 7
    funext k
    by_cases hk : k = j.toNatClampNeg
    · simp [va_up, hk]
    · simp [va_up, hk]
  rw [hws] at hP1
  have hlow := m_low hn6 hP1 (by have := hS1.1; omega)
  refine m_sz (by omega) (fun hz => ?_)
  exact kk p l e s m args below meth c b X D cA hF H1 locs1 lsr ⟨⟨by omega, hn6, hP1, hN.1.2.2.2⟩, hS1, hN.2.2.1, hn0⟩
theorem a_alen {a N : Nat} {v : Int32} (hd : decode Y.2.1 pc = .ok (.arraylength, 1)) (hl : m_lay a = (51, N)) (hi : a < n) (hv : Int32.ofNat N = v) (kk : AW S d Y n0 nf Q (pc + 1) lv (.int v :: st) I J R n) : AW S d Y n0 nf Q pc lv (.ref a :: st) I J R n := by
  intro p l e s m args below meth c b X D cA hF H locs lsr hN
  exact va_alen hF.1 hF.2.1 hF.2.2.2.2.2.2.2.2.1.1 hN.1.2.2.1 a 1 (by rw [m_ws_get hi, m_entI hl (by omega) (by omega)]) rfl hv hd (kk p l e s m args below meth c b X D cA hF H locs lsr hN)
theorem a_aleni {a N : Nat} {v : Int32} (hd : decode Y.2.1 pc = .ok (.arraylength, 1)) (hl : m_lay a = (50, N)) (hi : a < n) (hv : Int32.ofNat N = v) (kk : AW S d Y n0 nf Q (pc + 1) lv (.int v :: st) I J R n) : AW S d Y n0 nf Q pc lv (.ref a :: st) I J R n := by
  intro p l e s m args below meth c b X D cA hF H locs lsr hN
  exact va_alen hF.1 hF.2.1 hF.2.2.2.2.2.2.2.2.1.1 hN.1.2.2.1 a 0 (by rw [m_ws_get hi, m_entI hl (by omega) (by omega)]) rfl hv hd (kk p l e s m args below meth c b X D cA hF H locs lsr hN)
/-- the script -/
theorem a_sald {j : Int32} (hd : decode Y.2.1 pc = .ok (.iaload, 1)) (hin : vp_in j S.1) (kk : AW S d Y n0 nf Q (pc + 1) lv (.int (S.2 j.toNatClampNeg) :: st) I J R n) : AW S d Y n0 nf Q pc lv (.int j :: .ref 1000000 :: st) I J R n := by
  intro p l e s m args below meth c b X D cA hF H locs lsr hN
  exact va_ti (v := .int (S.2 j.toNatClampNeg)) hF.1 hF.2.1 hF.2.2.2.2.2.2.2.2.1.2.1.1 hN.2.1 hin rfl hd (kk p l e s m args below meth c b X D cA hF H locs lsr hN)
theorem a_slen {v : Int32} (hd : decode Y.2.1 pc = .ok (.arraylength, 1)) (hv : Int32.ofNat S.1 = v) (kk : AW S d Y n0 nf Q (pc + 1) lv (.int v :: st) I J R n) : AW S d Y n0 nf Q pc lv (.ref 1000000 :: st) I J R n := by
  intro p l e s m args below meth c b X D cA hF H locs lsr hN
  exact va_tlen hF.1 hF.2.1 hF.2.2.2.2.2.2.2.2.1.2.1.1 hN.2.1 hv hd (kk p l e s m args below meth c b X D cA hF H locs lsr hN)
/-- constants of the pool -/
theorem a_ldc {v : Int32} (hd : decode Y.2.1 pc = .ok (.ldc idx, 2)) (hm : Cond.constant Y.1.cls idx v ∈ m_gd) (kk : AW S d Y n0 nf Q (pc + 2) lv (.int v :: st) I J R n) : AW S d Y n0 nf Q pc lv st I J R n := by
  intro p l e s m args below meth c b X D cA hF H locs lsr hN
  exact lv_ldc hF.1 hF.2.1 hF.2.2.2.2.2.1 (hF.2.2.2.2.2.2.2.1 _ hm) hd (kk p l e s m args below meth c b X D cA hF H locs lsr hN)
theorem a_ldcw {v : Int32} (hd : decode Y.2.1 pc = .ok (.ldc_w idx, 3)) (hm : Cond.constant Y.1.cls idx v ∈ m_gd) (kk : AW S d Y n0 nf Q (pc + 3) lv (.int v :: st) I J R n) : AW S d Y n0 nf Q pc lv st I J R n := by
  intro p l e s m args below meth c b X D cA hF H locs lsr hN
  exact lv_ldcw hF.1 hF.2.1 hF.2.2.2.2.2.1 (hF.2.2.2.2.2.2.2.1 _ hm) hd (kk p l e s m args below meth c b X D cA hF H locs lsr hN)
theorem a_ldc2 {v : Int64} (hd : decode Y.2.1 pc = .ok (.ldc2_w idx, 3)) (hm : Cond.constantLong Y.1.cls idx v ∈ m_gd) (kk : AW S d Y n0 nf Q (pc + 3) lv (.long v :: st) I J R n) : AW S d Y n0 nf Q pc lv st I J R n := by
  intro p l e s m args below meth c b X D cA hF H locs lsr hN
  exact lv_ldc2 hF.1 hF.2.1 hF.2.2.2.2.2.1 (hF.2.2.2.2.2.2.2.1 _ hm) hd (kk p l e s m args below meth c b X D cA hF H locs lsr hN)
theorem a_aret {v : Value} {rt : FieldType} (hd : decode Y.2.1 pc = .ok (.areturn, 1)) (hr : Y.2.2.2 = some rt) (hrt : ∃ n, rt = .object n) (hv : v = .null ∨ ∃ a, v = .ref a) (hq : Q (some v) I J R) : AW S d Y n0 n Q pc lv [v] I J R n :=
  fun p l e s m args below meth c b X D cA hF H locs lsr hN => W.aret (v := m_cv (m_ad b X) v) hF.1 hF.2.1 (hF.2.2.1.trans hr) (Or.inl hrt) (by rcases hv with rfl | ⟨a, rfl⟩; exact Or.inl rfl; exact Or.inr ⟨_, rfl⟩) (fun t ht hW => ⟨⟨some v, I, J, R, rfl, hq, by rw [ht]; exact hN.1⟩, hN.2.1.F ht⟩) hN.2.1.2.2 hd hF.2.2.2.1
/-- Object's own <init> -/
theorem a_objI {i : Nat} (hd : decode Y.2.1 pc = .ok (.invokespecial idx, 3)) (hm : Cond.methodLink Y.1.cls idx objectInit ∈ m_gd) (hst : (st.map fun v => v.category).sum ≤ 8) (kk : AW S (d + 1) Y n0 nf Q (pc + 3) lv st I J R n) : AW S (d + 1) Y n0 nf Q pc lv (.ref i :: st) I J R n := by
  intro p l e s m args below meth c b X D cA hF H locs lsr hN
  have hts := hF.2.2.2.2.2.2.2.1
  refine W.objInit hF.1 hF.2.1 hF.2.2.2.2.2.1 (hts _ hm) (hts (.instanceMethod objectInit) (m_in (i := 28) (by decide +kernel) rfl)) (hts (.code objectInit ⟨#[0xb1]⟩ 1 none) (m_in (i := 29) (by decide +kernel) rfl)) rfl (by rw [hF.2.2.2.2.1]; exact hN.2.2.1.1) rfl hd (Nat.le_add_left 1 d) ?_ ?_
  · have := m_cats (ad := m_ad b X) st
    show 2 * 0 + ((st.map (m_cv (m_ad b X))).map fun v => v.category).sum + 12 ≤ 64 * (d + 1)
    omega
  · exact kk p l e s m args below meth c b X D cA hF H locs lsr hN
/-- System.arraycopy of int[] or byte[] rows -/
theorem a_copy {a0 a1 ty N0 N1 : Nat} {sp dp k : Int32} (hd : decode Y.2.1 pc = .ok (.invokestatic idx, 3)) (hm : Cond.methodLink Y.1.cls idx arraycopyName ∈ m_gd) (h0 : m_lay a0 = (ty, N0)) (h1 : m_lay a1 = (ty, N1)) (ht : ty = 50 ∨ ty = 51) (hi0 : a0 < n) (hi1 : a1 < n) (hs : ¬ sp < 0) (hp : ¬ dp < 0) (hk : ¬ k < 0) (hb0 : sp.toNatClampNeg + k.toNatClampNeg ≤ N0) (hb1 : dp.toNatClampNeg + k.toNatClampNeg ≤ N1) (hst : (st.map fun v => v.category).sum ≤ 8)
    (kk : AW S (d + 1) Y n0 nf Q (pc + 3) lv st (m_row I a1 (va_cpy (I a0) (I a1) sp.toNatClampNeg dp.toNatClampNeg k.toNatClampNeg)) J R n) : AW S (d + 1) Y n0 nf Q pc lv (.int k :: .int dp :: .ref a1 :: .int sp :: .ref a0 :: st) I J R n := by
  intro p l e s m args below meth c b X D cA hF H locs lsr hN
  have hts := hF.2.2.2.2.2.2.2.1
  have hmlx : c.maxLocals = lsr.size := by rw [hF.2.2.2.2.1]; exact hN.2.2.1.1.symm
  have hloc : ((st.map (m_cv (m_ad b X))).map fun v => v.category).sum + (nativeFrameWords "java/lang/System" "arraycopy" 5 + 11) ≤ (m_room (d + 1) n0 nf).locals := by
    rw [m_cats]
    have e1 : nativeFrameWords "java/lang/System" "arraycopy" 5 = 7 := by decide +kernel
    rw [e1]
    show _ ≤ 64 * (d + 1)
    omega
  have g0 := m_ws_get (ad := m_ad b X) (cA := cA) (I := I) (J := J) (R := R) hi0
  have g1 := m_ws_get (ad := m_ad b X) (cA := cA) (I := I) (J := J) (R := R) hi1
  rw [m_entI h0 (by omega) (by omega)] at g0
  rw [m_entI h1 (by omega) (by omega)] at g1
  rcases ht with rfl | rfl
  · exact va_copyi hF.1 hF.2.1 hmlx hF.2.2.2.2.2.1 (hts _ hm) (hts (.native arraycopyName) (m_in (i := 705) (by decide +kernel) rfl)) (hts (.static arraycopyName) (m_in (i := 704) (by decide +kernel) rfl)) (hts (.initialized "java/lang/System") (m_in (i := 20) (by decide +kernel) rfl)) hF.2.2.2.2.2.2.2.2.1.1 hN.1.2.2.1 (m_ws_D hN.1.2.1) hN.2.1 a0 a1 0 0 g0 g1 rfl rfl rfl hs hp hk hb0 hb1 (fun _ _ => rfl) (Nat.le_add_left 1 d) hloc hd (m_wr hF hN h1 (by omega) (by omega) (fun h => by omega) kk)
  · refine va_copyi hF.1 hF.2.1 hmlx hF.2.2.2.2.2.1 (hts _ hm) (hts (.native arraycopyName) (m_in (i := 705) (by decide +kernel) rfl)) (hts (.static arraycopyName) (m_in (i := 704) (by decide +kernel) rfl)) (hts (.initialized "java/lang/System") (m_in (i := 20) (by decide +kernel) rfl)) hF.2.2.2.2.2.2.2.2.1.1 hN.1.2.2.1 (m_ws_D hN.1.2.1) hN.2.1 a0 a1 1 1 g0 g1 rfl rfl rfl hs hp hk hb0 hb1 (fun i hi => hN.1.2.2.2 a0 (by rw [h0]) _) (Nat.le_add_left 1 d) hloc hd (m_wr hF hN h1 (by omega) (by omega) (fun h q => ?_) kk)
    unfold va_cpy
    split
    · exact hN.1.2.2.2 a0 (by rw [h0]) _
    · exact hN.1.2.2.2 a1 (by rw [h1]) _
end MA
