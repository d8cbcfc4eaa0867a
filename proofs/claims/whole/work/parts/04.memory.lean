/-- one place of a memory set anew -/
def m_up {α : Type} (I : Nat → Nat → α) (a k : Nat) (x : α) : Nat → Nat → α := fun i => if i = a then va_up (I a) k x else I i
theorem m_up_ne {α : Type} {I : Nat → Nat → α} {a k i : Nat} {x : α} (h : i ≠ a) : m_up I a k x i = I i := by simp [m_up, h]
theorem m_up_eq {α : Type} {I : Nat → Nat → α} {a k : Nat} {x : α} : m_up I a k x a = va_up (I a) k x := by simp [m_up]
theorem m_up_at {α : Type} {I : Nat → Nat → α} {a k : Nat} {x : α} : m_up I a k x a k = x := by simp [m_up, va_up]
theorem m_up_off {α : Type} {I : Nat → Nat → α} {a k j : Nat} {x : α} (h : j ≠ k) : m_up I a k x a j = I a j := by simp [m_up, va_up, h]
/-- one row of a memory set anew -/
def m_row {α : Type} (I : Nat → Nat → α) (a : Nat) (f : Nat → α) : Nat → Nat → α := fun i => if i = a then f else I i
theorem m_row_ne {α : Type} {I : Nat → Nat → α} {a i : Nat} {f : Nat → α} (h : i ≠ a) : m_row I a f i = I i := by simp [m_row, h]
theorem m_row_eq {α : Type} {I : Nat → Nat → α} {a : Nat} {f : Nat → α} : m_row I a f a = f := by simp [m_row]
theorem m_up_row {α : Type} {I : Nat → Nat → α} {a k : Nat} {x : α} : m_up I a k x = m_row I a (va_up (I a) k x) := rfl
theorem m_fs_len {ad : Nat → Nat} {I : mI} {J : mJ} {R : mR} {ci N i : Nat} : (m_fs ad I J R ci N i).length = N := by simp [m_fs]
theorem m_fs_get {ad : Nat → Nat} {I : mI} {J : mJ} {R : mR} {ci N i k : Nat} (hk : k < N) : (m_fs ad I J R ci N i)[k]? = some (m_fv ad (m_sty ci k) (I i k) (J i k) (R i k)) := by
  simp [m_fs, hk]
theorem m_ws_len {ad : Nat → Nat} {cA : Nat → ClassId} {I : mI} {J : mJ} {R : mR} {n : Nat} : (m_ws ad cA I J R n).length = n := by simp [m_ws]
theorem m_ws_get {ad : Nat → Nat} {cA : Nat → ClassId} {I : mI} {J : mJ} {R : mR} {n i : Nat} (hi : i < n) : (m_ws ad cA I J R n)[i]? = some (ad i, m_ent ad cA I J R i) := by
  simp [m_ws, hi]
theorem m_ws_inv {ad : Nat → Nat} {cA : Nat → ClassId} {I : mI} {J : mJ} {R : mR} {n i : Nat} {q : Nat × va_E} (h : (m_ws ad cA I J R n)[i]? = some q) : i < n ∧ q = (ad i, m_ent ad cA I J R i) := by
  have hi : i < n := by
    have h2 := (List.getElem?_eq_some_iff.mp h).1
    rwa [m_ws_len] at h2
  rw [m_ws_get hi] at h
  exact ⟨hi, (Option.some.inj h).symm⟩
theorem m_ws_succ {ad : Nat → Nat} {cA : Nat → ClassId} {I : mI} {J : mJ} {R : mR} {n : Nat} : m_ws ad cA I J R (n + 1) = m_ws ad cA I J R n ++ [(ad n, m_ent ad cA I J R n)] := by
  simp [m_ws, List.range_succ]
theorem m_ws_eq {ad : Nat → Nat} {cA : Nat → ClassId} {I I' : mI} {J J' : mJ} {R R' : mR} {n : Nat} (h : ∀ i, i < n → m_ent ad cA I J R i = m_ent ad cA I' J' R' i) : m_ws ad cA I J R n = m_ws ad cA I' J' R' n := by
  apply List.map_congr_left
  intro i hi
  rw [h i (List.mem_range.mp hi)]
theorem m_ws_set {ad : Nat → Nat} {cA : Nat → ClassId} {I I' : mI} {J J' : mJ} {R R' : mR} {n i : Nat} {e : va_E} (he : m_ent ad cA I' J' R' i = e) (h : ∀ j, j ≠ i → m_ent ad cA I' J' R' j = m_ent ad cA I J R j) : (m_ws ad cA I J R n).set i (ad i, e) = m_ws ad cA I' J' R' n := by
  apply List.ext_getElem?
  intro k
  by_cases hk : k < n
  · rw [m_ws_get hk, List.getElem?_set]
    by_cases hik : i = k
    · subst hik
      simp [m_ws_len, hk, he]
    · rw [if_neg hik, m_ws_get hk, h k (Ne.symm hik)]
  · rw [List.getElem?_eq_none (by rw [List.length_set, m_ws_len]; omega), List.getElem?_eq_none (by rw [m_ws_len]; omega)]
theorem m_ad_lt {b : Nat} {X : Nat → Nat} {i : Nat} (h : i < 1000000) : m_ad b X i = b + i := by simp [m_ad, h]
theorem m_ws_D {b : Nat} {X : Nat → Nat} {cA : Nat → ClassId} {I : mI} {J : mJ} {R : mR} {n : Nat} (hn : n ≤ 1000000) : va_D (m_A b) (m_ws (m_ad b X) cA I J R n) := by
  refine ⟨fun i j p q hi hj hpq => ?_, fun k q hk => ?_⟩
  · obtain ⟨h1, rfl⟩ := m_ws_inv hi
    obtain ⟨h2, rfl⟩ := m_ws_inv hj
    dsimp only at hpq
    rw [m_ad_lt (by omega), m_ad_lt (by omega)] at hpq
    omega
  · obtain ⟨h1, rfl⟩ := m_ws_inv hk
    show b ≤ m_ad b X k
    rw [m_ad_lt (by omega)]
    omega
theorem m_low {b : Nat} {X : Nat → Nat} {D : va_G} {cA : Nat → ClassId} {I : mI} {J : mJ} {R : mR} {n : Nat} {H : Heap} (hn : n ≤ 1000000) (hP : va_P D m_cl (m_ws (m_ad b X) cA I J R n) H) (hb : b ≤ H.size) : b + n ≤ H.size := by
  cases n with
  | zero => exact hb
  | succ k =>
    have h := (hP k _ (m_ws_get (Nat.lt_succ_self k))).lt
    dsimp only at h
    rw [m_ad_lt (by omega)] at h
    omega
section MS
variable {p : Program} {l : Launch} {e : Env} {R : Room} {s : State} {m : MethodId} {args : Array Value} {below : List Frame} {meth : Method} {c : Code} {H : Heap} {locs : List Loc} {cells slots : Nat} {Q : State → Prop} {g : JFrame}
theorem m_sz (hle : s.heap.size + cells ≤ H.size) (k : H.size = s.heap.size + cells → W p l e R s m args below meth c H locs cells slots Q g) : W p l e R s m args below meth c H locs cells slots Q g := by
  intro T hT X
  refine k ?_ T hT X
  have h2 : (T.setVm s.vm).heap.size ≤ s.heap.size + cells := X.same.2.2.1
  have h3 : (T.setVm s.vm).heap = H := hT
  rw [h3] at h2
  omega
end MS
/-- an entry of a pool that links to a field: class ci (N fields), its k-th field, final or not, of type t -/
def m_fl (own : String) (idx ci k N : Nat) (fin : Bool) (t : FieldType) : Prop := ∃ (C : String) (T : u_T) (ty : Nat → FieldType), m_cl[ci]? = some (C, T, N) ∧ (∀ w ∈ u_ws C T N, w ∈ m_gd) ∧ (∀ j, j < N → parseFieldDescriptor (T j).2.2.1 = some (ty j)) ∧ (∀ a, a < N → ∀ b, b < N → a ≠ b → (T a).2.1 ≠ (T b).2.1) ∧ k < N ∧ Cond.fieldLink own idx (T k).1 (T k).2.1 (T k).2.2.1 ∈ m_gd ∧ (T k).2.2.2 = fin ∧ ty k = t ∧ (T k).1 = C ∧ ci < 50
theorem m_in {i : Nat} {w : Cond} (h : tables_1[i]? = some w) (hg : goodWord w = true) : w ∈ m_gd := List.mem_filter.mpr ⟨List.mem_append_right _ (List.mem_of_getElem? h), hg⟩
section MM
variable {S : Nat × (Nat → Int32)} {d : Nat} {Y : mY} {n0 nf : Nat} {Q : Option Value → mI → mJ → mR → Prop} {pc : Nat} {lv lv' : List (Nat × Value)} {st : List Value} {I : mI} {J : mJ} {R : mR} {n : Nat}
theorem m_entO {ad : Nat → Nat} {cA : Nat → ClassId} {i ci N : Nat} (hl : m_lay i = (ci, N)) (h50 : ci < 50) : m_ent ad cA I J R i = .inr (ci, m_fs ad I J R ci N i) := by simp [m_ent, hl, h50]
theorem m_entI {ad : Nat → Nat} {cA : Nat → ClassId} {i ty N : Nat} (hl : m_lay i = (ty, N)) (h1 : 50 ≤ ty) (h2 : ty < 53) : m_ent ad cA I J R i = .inl (cA ty, N, .inl (I i)) := by
  simp [m_ent, hl, show ¬ ty < 50 by omega, h2]
theorem m_entR {ad : Nat → Nat} {cA : Nat → ClassId} {i ty N : Nat} (hl : m_lay i = (ty, N)) (h2 : 53 ≤ ty) : m_ent ad cA I J R i = .inl (cA ty, N, .inr (.inr (.inr (.inr (fun k => (R i k).map ad))))) := by
  simp [m_ent, hl, show ¬ ty < 50 by omega, show ¬ ty < 53 by omega]
/-- getfield, whatever the slot's type -/
theorem a_get {idx i ci k N : Nat} {fin : Bool} {t : FieldType} {v : Value} (hd : decode Y.2.1 pc = .ok (.getfield idx, 3)) (hf : m_fl Y.1.cls idx ci k N fin t) (hl : m_lay i = (ci, N)) (hi : i < n) (hv : ∀ ad, m_fv ad (m_sty ci k) (I i k) (J i k) (R i k) = m_cv ad v) (kk : AW S d Y n0 nf Q (pc + 3) lv (v :: st) I J R n) : AW S d Y n0 nf Q pc lv (.ref i :: st) I J R n := by
  intro p l e s m args below meth c b X D cA hF H locs lsr hN
  obtain ⟨hx, hb, hr, hlo, hml, hown, hnm, hts, hC, hsz⟩ := id hF
  obtain ⟨⟨hHs, hn6, hP, hfi⟩, hS, hlv, hn0⟩ := id hN
  obtain ⟨C, T, ty, hc, hw, hty, hnmm, hk, hlk, hfin, htk, hTC, h50⟩ := hf
  exact va_get hx hb hts hw hown hC.1 hP i (by rw [m_ws_get hi, m_entO hl h50]) hc k hk (hts _ hlk) (fun _ h => h) (by rw [m_fs_get hk, hv]) hd (kk p l e s m args below meth c b X D cA hF H locs lsr hN)
theorem a_geti {idx i ci k N : Nat} {fin : Bool} {t : FieldType} (hd : decode Y.2.1 pc = .ok (.getfield idx, 3)) (hf : m_fl Y.1.cls idx ci k N fin t) (hs : m_sty ci k = 0) (hl : m_lay i = (ci, N)) (hi : i < n) (kk : AW S d Y n0 nf Q (pc + 3) lv (.int (I i k) :: st) I J R n) : AW S d Y n0 nf Q pc lv (.ref i :: st) I J R n := a_get hd hf hl hi (fun ad => by rw [hs]; rfl) kk
theorem a_getl {idx i ci k N : Nat} {fin : Bool} {t : FieldType} (hd : decode Y.2.1 pc = .ok (.getfield idx, 3)) (hf : m_fl Y.1.cls idx ci k N fin t) (hs : m_sty ci k = 1) (hl : m_lay i = (ci, N)) (hi : i < n) (kk : AW S d Y n0 nf Q (pc + 3) lv (.long (J i k) :: st) I J R n) : AW S d Y n0 nf Q pc lv (.ref i :: st) I J R n := a_get hd hf hl hi (fun ad => by rw [hs]; rfl) kk
theorem a_geta {idx i ci k N r : Nat} {fin : Bool} {t : FieldType} (hd : decode Y.2.1 pc = .ok (.getfield idx, 3)) (hf : m_fl Y.1.cls idx ci k N fin t) (hs : m_sty ci k = 2) (hl : m_lay i = (ci, N)) (hi : i < n) (hr : R i k = some r) (kk : AW S d Y n0 nf Q (pc + 3) lv (.ref r :: st) I J R n) : AW S d Y n0 nf Q pc lv (.ref i :: st) I J R n := a_get hd hf hl hi (fun ad => by rw [hs, hr]; rfl) kk
theorem m_fs_set {ad : Nat → Nat} {I' : mI} {J' : mJ} {R' : mR} {ci N i k : Nat} {v : Value} (hk : k < N) (hv : m_fv ad (m_sty ci k) (I' i k) (J' i k) (R' i k) = v) (ho : ∀ j, j ≠ k → I' i j = I i j ∧ J' i j = J i j ∧ R' i j = R i j) : (m_fs ad I J R ci N i).set k v = m_fs ad I' J' R' ci N i := by
  apply List.ext_getElem?
  intro j
  by_cases hj : j < N
  · rw [m_fs_get hj, List.getElem?_set]
    by_cases hkj : k = j
    · subst hkj
      simp [m_fs_len, hk, hv]
    · obtain ⟨h1, h2, h3⟩ := ho j (Ne.symm hkj)
      rw [if_neg hkj, m_fs_get hj, h1, h2, h3]
  · rw [List.getElem?_eq_none (by rw [List.length_set, m_fs_len]; omega), List.getElem?_eq_none (by rw [m_fs_len]; omega)]
theorem m_ent_o {ad : Nat → Nat} {cA : Nat → ClassId} {I' : mI} {J' : mJ} {R' : mR} {j : Nat} (h1 : I' j = I j) (h2 : J' j = J j) (h3 : R' j = R j) : m_ent ad cA I' J' R' j = m_ent ad cA I J R j := by
  unfold m_ent m_fs
  rw [h1, h2, h3]
/-- putfield, of a field that isn't final, or in its class's <init> -/
theorem a_put {idx i ci k N : Nat} {fin : Bool} {t : FieldType} {v : Value} {I' : mI} {J' : mJ} {R' : mR} (hd : decode Y.2.1 pc = .ok (.putfield idx, 3)) (hf : m_fl Y.1.cls idx ci k N fin t) (hl : m_lay i = (ci, N)) (hi : i < n) (hv : ∀ ad, m_fv ad (m_sty ci k) (I' i k) (J' i k) (R' i k) = m_cv ad v) (hin : fin = true → Y.1.name = "<init>" ∧ ∃ q, m_cl[ci]? = some q ∧ q.1 = Y.1.cls) (hnar : ∀ ad, narrow t (m_cv ad v) = m_cv ad v ∧ fits t (m_cv ad v) = true)
    (ho : ∀ j, j ≠ k → I' i j = I i j ∧ J' i j = J i j ∧ R' i j = R i j) (hoo : ∀ q, q ≠ i → I' q = I q ∧ J' q = J q ∧ R' q = R q)
    (kk : AW S d Y n0 nf Q (pc + 3) lv st I' J' R' n) : AW S d Y n0 nf Q pc lv (v :: .ref i :: st) I J R n := by
  intro p l e s m args below meth c b X D cA hF H locs lsr hN
  obtain ⟨hx, hb, hr, hlo, hml, hown, hnm, hts, hC, hsz⟩ := id hF
  obtain ⟨⟨hHs, hn6, hP, hfi⟩, hS, hlv, hn0⟩ := id hN
  obtain ⟨C, T, ty, hc, hw, hty, hnmm, hk, hlk, hfin, htk, hTC, h50⟩ := hf
  have hD := m_ws_D (b := b) (X := X) (cA := cA) (I := I) (J := J) (R := R) hn6
  have hd2 : parseFieldDescriptor (T k).2.2.1 = some t := by rw [hty k hk, htk]
  have he : (m_ws (m_ad b X) cA I J R n)[i]? = some (m_ad b X i, .inr (ci, m_fs (m_ad b X) I J R ci N i)) := by rw [m_ws_get hi, m_entO hl h50]
  have hws : (m_ws (m_ad b X) cA I J R n).set i (m_ad b X i, .inr (ci, (m_fs (m_ad b X) I J R ci N i).set k (m_cv (m_ad b X) v))) = m_ws (m_ad b X) cA I' J' R' n :=
    m_ws_set (by rw [m_entO hl h50, m_fs_set hk (hv _) ho]) (fun j hj => m_ent_o (hoo j hj).1 (hoo j hj).2.1 (hoo j hj).2.2)
  have hfit : m_fit I' := fun j hj q => by
    by_cases hji : j = i
    · subst hji
      rw [hl] at hj
      exact absurd hj (show ¬ ci = 51 by omega)
    · rw [(hoo j hji).1]
      exact hfi j hj q
  have go : ∀ (H1 : Heap) (locs1 : List Loc), va_P D m_cl ((m_ws (m_ad b X) cA I J R n).set i (m_ad b X i, .inr (ci, (m_fs (m_ad b X) I J R ci N i).set k (m_cv (m_ad b X) v)))) H1 → va_D (m_A b) ((m_ws (m_ad b X) cA I J R n).set i (m_ad b X i, .inr (ci, (m_fs (m_ad b X) I J R ci N i).set k (m_cv (m_ad b X) v)))) → va_S (m_A b) s.heap H1 locs1 → W p l e (m_room d n0 nf) s m args below meth c H1 locs1 (n - n0) (m_sl n - m_sl n0) (MQ below (m_Qc b X D cA nf Q) args s (nf - n0) (m_sl nf - m_sl n0) (m_A b)) (F0 m (pc + 3) lsr (st.map (m_cv (m_ad b X)))) := by
    intro H1 locs1 hP1 hD1 hS1
    rw [hws] at hP1
    have hlow := m_low hn6 hP1 (by have := hS1.1; omega)
    refine m_sz (by omega) (fun hz => ?_)
    exact kk p l e s m args below meth c b X D cA hF H1 locs1 lsr ⟨⟨by omega, hn6, hP1, hfit⟩, hS1, hlv, hn0⟩
  cases fin with
  | false => exact va_put hx hb hts hw ty hty hnmm hown hC.1 hP hD hS i he hc k hk (hts _ hlk) (fun _ h => h) hfin hd2 (hnar _).1 (hnar _).2 (by rw [m_fs_len]; exact hk) hd go
  | true =>
    obtain ⟨hni, q, hq1, hq2⟩ := hin rfl
    rw [hc] at hq1
    have hq3 : C = Y.1.cls := by rw [← hq2, ← Option.some.inj hq1]
    exact va_putF hx hb hts hw ty hty hnmm hown hC.1 hP hD hS i he hc k hk (hts _ hlk) (fun _ h => h) hfin (hnm.trans hni) (hTC.trans hq3) hd2 (hnar _).1 (hnar _).2 (by rw [m_fs_len]; exact hk) hd go
theorem a_puti {idx i ci k N : Nat} {x : Int32} (hd : decode Y.2.1 pc = .ok (.putfield idx, 3)) (hf : m_fl Y.1.cls idx ci k N false .int) (hs : m_sty ci k = 0) (hl : m_lay i = (ci, N)) (hi : i < n) (kk : AW S d Y n0 nf Q (pc + 3) lv st (m_up I i k x) J R n) : AW S d Y n0 nf Q pc lv (.int x :: .ref i :: st) I J R n :=
  a_put hd hf hl hi (fun ad => by rw [hs, m_up_at]; rfl) (fun h => by cases h) (fun ad => ⟨rfl, rfl⟩) (fun j hj => ⟨m_up_off hj, rfl, rfl⟩) (fun q hq => ⟨m_up_ne hq, rfl, rfl⟩) kk
theorem a_putz {idx i ci k N : Nat} {x : Int32} (hd : decode Y.2.1 pc = .ok (.putfield idx, 3)) (hf : m_fl Y.1.cls idx ci k N false .boolean) (hs : m_sty ci k = 0) (hx : x = 0 ∨ x = 1) (hl : m_lay i = (ci, N)) (hi : i < n) (kk : AW S d Y n0 nf Q (pc + 3) lv st (m_up I i k x) J R n) : AW S d Y n0 nf Q pc lv (.int x :: .ref i :: st) I J R n :=
  a_put hd hf hl hi (fun ad => by rw [hs, m_up_at]; rfl) (fun h => by cases h) (fun ad => by rcases hx with rfl | rfl <;> exact ⟨rfl, rfl⟩) (fun j hj => ⟨m_up_off hj, rfl, rfl⟩) (fun q hq => ⟨m_up_ne hq, rfl, rfl⟩) kk
theorem a_putl {idx i ci k N : Nat} {x : Int64} (hd : decode Y.2.1 pc = .ok (.putfield idx, 3)) (hf : m_fl Y.1.cls idx ci k N false .long) (hs : m_sty ci k = 1) (hl : m_lay i = (ci, N)) (hi : i < n) (kk : AW S d Y n0 nf Q (pc + 3) lv st I (m_up J i k x) R n) : AW S d Y n0 nf Q pc lv (.long x :: .ref i :: st) I J R n :=
  a_put hd hf hl hi (fun ad => by rw [hs, m_up_at]; rfl) (fun h => by cases h) (fun ad => ⟨rfl, rfl⟩) (fun j hj => ⟨rfl, m_up_off hj, rfl⟩) (fun q hq => ⟨rfl, m_up_ne hq, rfl⟩) kk
theorem m_refty {t : FieldType} (ht : t.isReference = true) (a : Nat) : narrow t (.ref a) = .ref a ∧ fits t (.ref a) = true := by
  cases t <;> simp_all [FieldType.isReference, narrow, fits]
theorem a_puta {idx i ci k N r : Nat} {t : FieldType} {fin : Bool} (hd : decode Y.2.1 pc = .ok (.putfield idx, 3)) (hf : m_fl Y.1.cls idx ci k N fin t) (hs : m_sty ci k = 2) (ht : t.isReference = true) (hin : fin = true → Y.1.name = "<init>" ∧ ∃ q, m_cl[ci]? = some q ∧ q.1 = Y.1.cls) (hl : m_lay i = (ci, N)) (hi : i < n) (kk : AW S d Y n0 nf Q (pc + 3) lv st I J (m_up R i k (some r)) n) : AW S d Y n0 nf Q pc lv (.ref r :: .ref i :: st) I J R n :=
  a_put hd hf hl hi (fun ad => by rw [hs, m_up_at]; rfl) hin (fun ad => m_refty ht _) (fun j hj => ⟨rfl, rfl, m_up_off hj⟩) (fun q hq => ⟨rfl, rfl, m_up_ne hq⟩) kk
end MM
