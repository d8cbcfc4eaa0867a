theorem m_lvargs {ad : Nat → Nat} : ∀ (as : List Value) (i : Nat), lv_args i (as.map (m_cv ad)) = m_lvc ad (lv_args i as) := by
  intro as
  induction as with
  | nil => intro i; rfl
  | cons v vs ih =>
    intro i
    show (i, m_cv ad v) :: lv_args (if (m_cv ad v).category = 2 then i + 2 else i + 1) (vs.map (m_cv ad)) = _
    rw [m_cv_cat, ih]
    rfl
theorem m_lgsl {ad : Nat → Nat} (as : List Value) : (lg_sl (as.map (m_cv ad))).length = (lg_sl as).length := by
  induction as with
  | nil => rfl
  | cons v vs ih =>
    simp only [lg_sl, List.map_cons, List.flatMap_cons, List.length_append] at ih ⊢
    rw [ih, m_cv_cat]
    split <;> rfl
theorem m_cats {ad : Nat → Nat} (st : List Value) : ((st.map (m_cv ad)).map fun v => v.category).sum = (st.map fun v => v.category).sum := by
  rw [List.map_map]
  congr 1
  apply List.map_congr_left
  intro v _
  exact m_cv_cat ad v
theorem m_sl_succ (n : Nat) : m_sl (n + 1) = m_sl n + (m_lay n).2 := by
  simp [m_sl, List.range_succ]
theorem m_sl_mono {a b : Nat} (h : a ≤ b) : m_sl a ≤ m_sl b := by
  induction h with
  | refl => exact Nat.le_refl _
  | step _ ih => rw [m_sl_succ]; omega
theorem m_ext.moved {X : Nat → Nat} {S : Nat × (Nat → Int32)} {A : Nat → Prop} {u U : State} {H : Heap} (hvm : u.vm.Alike U.vm) (h : m_ext X S A u H) : m_ext X S A U H :=
  ⟨va_T.moved hvm h.1, ⟨va_Z.moved hvm h.2.1.1, va_T.moved hvm h.2.1.2⟩, ⟨va_Z.moved hvm h.2.2.1.1, va_T.moved hvm h.2.2.1.2⟩, ⟨va_Z.moved hvm h.2.2.2.1.1, h.2.2.2.1.2.elim (fun q => Or.inl (va_Z.moved hvm q)) (fun q => Or.inr (va_Z.moved hvm q))⟩, vk_S.moved hvm h.2.2.2.2⟩
theorem m_ext.kept {X : Nat → Nat} {S : Nat × (Nat → Int32)} {A : Nat → Prop} {U : State} {H H1 : Heap} (h : m_ext X S A U H) (hq : ∀ a : Nat, a < H.size → ¬ A a → H1[a]? = H[a]?) : m_ext X S A U H1 :=
  ⟨va_T.kept h.1 hq, ⟨va_Z.kept h.2.1.1 hq, va_T.kept h.2.1.2 hq⟩, ⟨va_Z.kept h.2.2.1.1 hq, va_T.kept h.2.2.1.2 hq⟩, ⟨va_Z.kept h.2.2.2.1.1 hq, h.2.2.2.1.2.elim (fun q => Or.inl (va_Z.kept q hq)) (fun q => Or.inr (va_Z.kept q hq))⟩, vk_S.kept h.2.2.2.2 hq⟩
theorem m_nst.warm {s U : State} (hW : s.WarmedH U.vm) (h : m_nst s) : m_nst U :=
  ⟨fun q hq => va_Nw.warmM hW (h.1 q hq), fun C hC => va_AO.moved hW.alike (h.2 C hC)⟩
theorem m_nst.same {u U : State} (hv : u.vm = U.vm) (h : m_nst u) : m_nst U :=
  ⟨fun q hq => va_Nw.same rfl hv (h.1 q hq), fun C hC => va_AO.moved (by rw [hv]; exact Vm.Alike.refl _) (h.2 C hC)⟩
theorem m_car.warm {S : Nat × (Nat → Int32)} {b : Nat} {X : Nat → Nat} {D : va_G} {cA : Nat → ClassId} {s U : State} {locs : List Loc} (hW : s.WarmedH U.vm) (hS : va_S (m_A b) s.heap U.heap locs) (h : m_car S b X D cA s) : m_car S b X D cA U :=
  ⟨va_K.moved hW.alike h.1, (h.2.1.moved hW.alike).kept hS.2.1, fun i q hq => vk_R.warm hW (h.2.2.1 i q hq), h.2.2.2.warm hW⟩
theorem m_car.same {S : Nat × (Nat → Int32)} {b : Nat} {X : Nat → Nat} {D : va_G} {cA : Nat → ClassId} {u U : State} (hv : u.vm = U.vm) (hh : u.heap = U.heap) (h : m_car S b X D cA u) : m_car S b X D cA U := by
  have ha : u.vm.Alike U.vm := by rw [hv]; exact Vm.Alike.refl _
  refine ⟨va_K.moved ha h.1, ?_, fun i q hq => vk_R.same hv.symm (h.2.2.1 i q hq), h.2.2.2.same hv⟩
  rw [← hh]
  exact h.2.1.moved ha
def m_Pc (S : Nat × (Nat → Int32)) (b : Nat) (X : Nat → Nat) (D : va_G) (cA : Nat → ClassId) (as : List Value) (I : mI) (J : mJ) (R : mR) (n : Nat) : Array Value → State → Prop :=
  va_Pc (as.map (m_cv (m_ad b X))) (fun U => m_at b X D cA I J R n U.heap ∧ m_car S b X D cA U)
theorem m_Pc_blind {S : Nat × (Nat → Int32)} {b : Nat} {X : Nat → Nat} {D : va_G} {cA : Nat → ClassId} {as : List Value} {I : mI} {J : mJ} {R : mR} {n : Nat} : FrameBlind (m_Pc S b X D cA as I J R n) := by
  intro a U g mk h
  obtain ⟨h1, h2, h3⟩ := h
  exact ⟨h1, h2, m_car.same (u := U) (U := U.calling g mk a) rfl rfl h3⟩
/-- a method that may be called with k arguments -/
def m_ok (Y : mY) (k : Nat) : Prop := Cond.code Y.1 Y.2.1 Y.2.2.1 Y.2.2.2 ∈ m_gd ∧ Cond.initialized Y.1.cls ∈ m_gd ∧ plainName Y.1.cls = true ∧ (Y.1.cls ≠ "java/lang/invoke/MethodHandle" ∧ Y.1.cls ≠ "java/lang/invoke/VarHandle" ∧ (parseMethodDescriptor Y.1.desc).map (fun d => d.parameters.length) = some k) ∧ Y.2.2.1 ≤ 45
theorem m_met {S : Nat × (Nat → Int32)} {d : Nat} {Y : mY} {n nf k : Nat} {Q : Option Value → mI → mJ → mR → Prop} {as : List Value} {I : mI} {J : mJ} {R : mR} (l : Launch) (b : Nat) (X : Nat → Nat) (D : va_G) (cA : Nat → ClassId) (hok : m_ok Y k) (has : (lg_sl as).length ≤ Y.2.2.1) (h : AW S d Y n nf Q 0 (lv_args 0 as) [] I J R n) :
    Met l Y.1 (Cond.code Y.1 Y.2.1 Y.2.2.1 Y.2.2.2 :: m_gd) (m_room d n nf) (m_Pc S b X D cA as I J R n) (m_Qc b X D cA nf Q) (nf - n) (m_sl nf - m_sl n) (m_A b) := by
  refine Met.ofW (cc := Y.2.1) (maxL := Y.2.2.1) (ret := Y.2.2.2) hok.2.2.1 rfl ?_
  intro p e s m args below meth c s₁ B hml hv
  obtain ⟨rfl, hat, hcar⟩ := hv
  have hts := atoms_spec (ws := Cond.code Y.1 Y.2.1 Y.2.2.1 Y.2.2.2 :: m_gd) B.pre
  rw [lg_entry_eq]
  have hl := lv_entry (as.map (m_cv (m_ad b X))) (n := Y.2.2.1) (by rw [m_lgsl]; exact has)
  rw [m_lvargs] at hl
  have w := h p l e s m (as.map (m_cv (m_ad b X))).toArray below meth c b X D cA ⟨B.exec, B.bytes, B.returns, B.notSynchronized, hml, findClass_of_methodNamed B.named, (name_of_methodNamed B.named B.method).1, fun w hw => hts w (List.mem_cons_of_mem _ hw), hcar, hat.1⟩ s.heap [] _ ⟨hat, va_S.rf, hl, Nat.le_refl _⟩
  rw [Nat.sub_self, Nat.sub_self] at w
  exact w
section MC
variable {p : Program} {l : Launch} {e : Env} {R : Room} {s : State} {m : MethodId} {args : Array Value} {below : List Frame} {meth : Method} {c : Code} {H : Heap} {locs : List Loc} {cells slots mc ms : Nat} {Q : State → Prop} {pc : Nat} {lsr : Array Slot} {rest st0 : List Value} {a : Array Value} {b : Nat} {X : Nat → Nat} {D : va_G} {cA : Nat → ClassId} {n' : Nat} {Q' : Option Value → mI → mJ → mR → Prop}
theorem m_back (hr : va_Run p l e R s m args below meth c H locs cells slots mc ms (F0 m pc lsr st0) rest (m_Qc b X D cA n' Q' a) (m_A b)) (hS : va_S (m_A b) s.heap H locs)
    (kk : ∀ (v : Option Value) (I : mI) (J : mJ) (R' : mR) (H1 : Heap) (locs1 : List Loc), Q' v I J R' → m_at b X D cA I J R' n' H1 → va_S (m_A b) s.heap H1 locs1 → W p l e R s m args below meth c H1 locs1 (cells + mc) (slots + ms) Q (F0 m (pc + 3) lsr ((v.map (m_cv (m_ad b X))).toList ++ rest))) : W p l e R s m args below meth c H locs cells slots Q (F0 m pc lsr st0) := by
  intro T hT X0
  obtain ⟨v, st₀, t, T', L, h0, X', hL, e1, e2, ⟨⟨v', I', J', R', hv, hq, hat⟩, hz, hk⟩, st⟩ := hr T hT X0
  cases hv
  rw [h0] at hz hk
  obtain ⟨t2, a1, b1⟩ := kk v' I' J' R' T'.heap (locs ++ L) hq (by rw [e1]; exact hat) ⟨Nat.le_trans hS.1 (by rw [e1]; exact hz), fun q h1 h2 => by rw [e1, hk q (Nat.lt_of_lt_of_le h1 hS.1) h2]; exact hS.2.1 q h1 h2, fun q hq => by
      rcases List.mem_append.mp hq with h | h
      · exact hS.2.2 q h
      · exact hL q h⟩ T' rfl X'
  exact ⟨t2, st t2 a1, b1⟩
end MC
theorem m_good {Y : mY} {k : Nat} (hok : m_ok Y k) : GoodIn m_gd (Cond.code Y.1 Y.2.1 Y.2.2.1 Y.2.2.2 :: m_gd) := by
  intro w hw
  have hm : w ∈ m_gd := by
    rcases List.mem_cons.mp hw with h | h
    · rw [h]; exact hok.1
    · exact h
  exact ⟨hm, good_of_word (List.mem_filter.mp hm).2⟩
def m_mV (own : String) (idx : Nat) (Y : mY) (k : Nat) : Prop := Cond.methodLink own idx Y.1 ∈ m_gd ∧ Cond.instanceMethod Y.1 ∈ m_gd ∧ Cond.selects Y.1.cls Y.1 Y.1 ∈ m_gd ∧ m_ok Y k
def m_mS (own : String) (idx : Nat) (Y : mY) (k : Nat) : Prop := Cond.methodLink own idx Y.1 ∈ m_gd ∧ Cond.static Y.1 ∈ m_gd ∧ m_ok Y k
def m_mN (own : String) (idx : Nat) (Y : mY) (k : Nat) : Prop := (∃ h, (own, idx, Y.1, h) ∈ m_nests) ∧ Cond.instanceMethod Y.1 ∈ m_gd ∧ Y.1.name = "<init>" ∧ Y.2.2.2 = none ∧ m_ok Y k
def m_mI (own : String) (idx : Nat) (Y : mY) (k : Nat) : Prop := Cond.methodLink own idx Y.1 ∈ m_gd ∧ Cond.instanceMethod Y.1 ∈ m_gd ∧ Y.1.name = "<init>" ∧ Y.2.2.2 = none ∧ m_ok Y k
section MK
variable {S : Nat × (Nat → Int32)} {d : Nat} {Y Y' : mY} {n0 nf n' : Nat} {Q Q' : Option Value → mI → mJ → mR → Prop} {pc idx k : Nat} {lv lv' : List (Nat × Value)} {st stk as : List Value} {I : mI} {J : mJ} {R : mR} {n : Nat}
theorem m_pre {p : Program} {s : State} {m : MethodId} {args : Array Value} {meth : Method} {c : Code} {b : Nat} {X : Nat → Nat} {D : va_G} {cA : Nat → ClassId} (hF : m_fix S Y p s m args meth c b X D cA n0) {H : Heap} {locs : List Loc} {lsr : Array Slot} (hN : m_now Y s b X D cA n0 lv I J R n H locs lsr) (as : List Value) : ∀ U : State, U.heap = H → s.WarmedH U.vm → m_Pc S b X D cA as I J R n (as.map (m_cv (m_ad b X))).toArray U := by
  intro U hU hW
  subst hU
  exact ⟨rfl, hN.1, m_car.warm hW hN.2.1 hF.2.2.2.2.2.2.2.2.1⟩
theorem m_step {p : Program} {l : Launch} {e : Env} {s : State} {m : MethodId} {args : Array Value} {below : List Frame} {meth : Method} {c : Code} {b : Nat} {X : Nat → Nat} {D : va_G} {cA : Nat → ClassId} {H : Heap} {locs : List Loc} {lsr : Array Slot} {a : Array Value} {st0 : List Value} (hF : m_fix S Y p s m args meth c b X D cA n0) (hN : m_now Y s b X D cA n0 lv I J R n H locs lsr) (h1 : n ≤ n') (h2 : n' ≤ nf)
    (hr : va_Run p l e (m_room (d + 1) n0 nf) s m args below meth c H locs (n - n0) (m_sl n - m_sl n0) (n' - n) (m_sl n' - m_sl n) (F0 m pc lsr st0) (st.map (m_cv (m_ad b X))) (m_Qc b X D cA n' Q' a) (m_A b))
    (kk : ∀ (v : Option Value) (I' : mI) (J' : mJ) (R' : mR), Q' v I' J' R' → AW S (d + 1) Y n0 nf Q (pc + 3) lv (v.toList ++ st) I' J' R' n') :
    W p l e (m_room (d + 1) n0 nf) s m args below meth c H locs (n - n0) (m_sl n - m_sl n0) (MQ below (m_Qc b X D cA nf Q) args s (nf - n0) (m_sl nf - m_sl n0) (m_A b)) (F0 m pc lsr st0) := by
  refine m_back hr hN.2.1 (fun v I' J' R' H1 locs1 hq hat hS => ?_)
  have w := kk v I' J' R' hq p l e s m args below meth c b X D cA hF H1 locs1 lsr ⟨hat, hS, hN.2.2.1, Nat.le_trans hN.2.2.2 h1⟩
  have e1 : n - n0 + (n' - n) = n' - n0 := by have := hN.2.2.2; omega
  have e2 : m_sl n - m_sl n0 + (m_sl n' - m_sl n) = m_sl n' - m_sl n0 := by have := m_sl_mono hN.2.2.2; have := m_sl_mono h1; omega
  refine W.cs e1 e2 ?_
  have e3 : (v.map (m_cv (m_ad b X))).toList ++ st.map (m_cv (m_ad b X)) = (v.toList ++ st).map (m_cv (m_ad b X)) := by cases v <;> rfl
  rw [e3]
  exact w
theorem m_fits {R0 : Room} (h0 : n0 ≤ n) (h1 : n ≤ n') (h2 : n' ≤ nf) (hR : R0 = m_room (d + 1) n0 nf) : n - n0 + (n' - n) ≤ R0.cells ∧ m_sl n - m_sl n0 + (m_sl n' - m_sl n) ≤ R0.slots := by
  subst hR
  have a1 := m_sl_mono h0
  have a2 := m_sl_mono h1
  have a3 := m_sl_mono h2
  exact ⟨by show n - n0 + (n' - n) ≤ nf - n0; omega, by show m_sl n - m_sl n0 + (m_sl n' - m_sl n) ≤ m_sl nf - m_sl n0; omega⟩
/-- invokevirtual of a method of the receiver's own class -/
theorem a_callV {i ci N : Nat} {q : vw_C} (hd : decode Y.2.1 pc = .ok (.invokevirtual idx, 3)) (hm : m_mV Y.1.cls idx Y' k) (has : as.length = k) (hsl : (lg_sl (.ref i :: as)).length ≤ Y'.2.2.1) (hl : m_lay i = (ci, N)) (hc : m_cl[ci]? = some q) (hq : q.1 = Y'.1.cls) (h50 : ci < 50) (hi : i < n) (hst : (st.map fun v => v.category).sum ≤ 8) (hstk : stk = as.reverse ++ .ref i :: st) (h1 : n ≤ n') (h2 : n' ≤ nf)
    (ca : AW S d Y' n n' Q' 0 (lv_args 0 (.ref i :: as)) [] I J R n)
    (kk : ∀ (v : Option Value) (I' : mI) (J' : mJ) (R' : mR), Q' v I' J' R' → AW S (d + 1) Y n0 nf Q (pc + 3) lv (v.toList ++ st) I' J' R' n') : AW S (d + 1) Y n0 nf Q pc lv stk I J R n := by
  subst hstk
  intro p l e s m args below meth c b X D cA hF H locs lsr hN
  obtain ⟨hx, hb, hr, hlo, hml, hown, hnm, hts, hC, hsz⟩ := id hF
  obtain ⟨hlk, hins, hsel, hok⟩ := hm
  have hcb := callB_of (R := m_room (d + 1) n0 nf) (rm := m_room d n n') (mc := n' - n) (ms := m_sl n' - m_sl n) k hts (m_good hok) rfl rfl rfl (hts _ hok.2.1) (hts _ hlk) hok.2.2.2.1 ⟨Nat.le_refl _, by have := hok.2.2.2.2; show 8 + (Y'.2.2.1 + 11) + 64 * d ≤ 64 * (d + 1); omega⟩
  have hrun := va_runV (locs := locs) (e := e) (below := below) (meth := meth) (cells := n - n0) (slots := m_sl n - m_sl n0) (g := F0 m pc lsr ((as.reverse ++ .ref i :: st).map (m_cv (m_ad b X)))) (As := as.map (m_cv (m_ad b X))) (rest := st.map (m_cv (m_ad b X))) ⟨hx, hb, hml, hown, hts⟩ (m_met l b X D cA hok hsl ca) ⟨hcb, hts _ hins, hts _ hsel⟩
    ⟨m_Pc_blind, by rw [← hq]; exact va_recv hC.1 hN.1.2.2.1 hc (by rw [m_ws_get hi, m_entO hl h50]), m_pre hF hN (.ref i :: as)⟩ rfl (by rw [List.length_map]; exact has) hN.2.2.1.1 (by simp [m_cv]) (lv_room (by rw [m_cats]; exact hst)) hd (m_fits hN.2.2.2 h1 h2 rfl)
  exact m_step hF hN h1 h2 hrun kk
/-- invokestatic -/
theorem a_callS (hd : decode Y.2.1 pc = .ok (.invokestatic idx, 3)) (hm : m_mS Y.1.cls idx Y' k) (has : as.length = k) (hsl : (lg_sl as).length ≤ Y'.2.2.1) (hst : (st.map fun v => v.category).sum ≤ 8) (hstk : stk = as.reverse ++ st) (h1 : n ≤ n') (h2 : n' ≤ nf)
    (ca : AW S d Y' n n' Q' 0 (lv_args 0 as) [] I J R n)
    (kk : ∀ (v : Option Value) (I' : mI) (J' : mJ) (R' : mR), Q' v I' J' R' → AW S (d + 1) Y n0 nf Q (pc + 3) lv (v.toList ++ st) I' J' R' n') : AW S (d + 1) Y n0 nf Q pc lv stk I J R n := by
  subst hstk
  intro p l e s m args below meth c b X D cA hF H locs lsr hN
  obtain ⟨hx, hb, hr, hlo, hml, hown, hnm, hts, hC, hsz⟩ := id hF
  obtain ⟨hlk, hstt, hok⟩ := hm
  have hcb := callB_of (R := m_room (d + 1) n0 nf) (rm := m_room d n n') (mc := n' - n) (ms := m_sl n' - m_sl n) k hts (m_good hok) rfl rfl rfl (hts _ hok.2.1) (hts _ hlk) hok.2.2.2.1 ⟨Nat.le_refl _, by have := hok.2.2.2.2; show 8 + (Y'.2.2.1 + 11) + 64 * d ≤ 64 * (d + 1); omega⟩
  have hrun := va_runS (locs := locs) (e := e) (below := below) (meth := meth) (cells := n - n0) (slots := m_sl n - m_sl n0) (g := F0 m pc lsr ((as.reverse ++ st).map (m_cv (m_ad b X)))) (As := as.map (m_cv (m_ad b X))) (rest := st.map (m_cv (m_ad b X))) ⟨hx, hb, hml, hown, hts⟩ (m_met l b X D cA hok hsl ca) ⟨hcb, hts _ hstt⟩
    ⟨m_Pc_blind, m_pre hF hN as⟩ rfl (by rw [List.length_map]; exact has) hN.2.2.1.1 (by simp) (lv_room (by rw [m_cats]; exact hst)) hd (m_fits hN.2.2.2 h1 h2 rfl)
  exact m_step hF hN h1 h2 hrun kk
/-- invokespecial of a constructor that the caller may call openly; of a nest mate's private one -/
theorem a_callI {i : Nat} (hd : decode Y.2.1 pc = .ok (.invokespecial idx, 3)) (hm : m_mI Y.1.cls idx Y' k) (has : as.length = k) (hsl : (lg_sl (.ref i :: as)).length ≤ Y'.2.2.1) (hst : (st.map fun v => v.category).sum ≤ 8) (hstk : stk = as.reverse ++ .ref i :: st) (h1 : n ≤ n') (h2 : n' ≤ nf)
    (ca : AW S d Y' n n' Q' 0 (lv_args 0 (.ref i :: as)) [] I J R n)
    (kk : ∀ (v : Option Value) (I' : mI) (J' : mJ) (R' : mR), Q' v I' J' R' → AW S (d + 1) Y n0 nf Q (pc + 3) lv (v.toList ++ st) I' J' R' n') : AW S (d + 1) Y n0 nf Q pc lv stk I J R n := by
  subst hstk
  intro p l e s m args below meth c b X D cA hF H locs lsr hN
  obtain ⟨hx, hb, hr, hlo, hml, hown, hnm, hts, hC, hsz⟩ := id hF
  obtain ⟨hlk, hins, hni, hret, hok⟩ := hm
  have hcb := callB_of (R := m_room (d + 1) n0 nf) (rm := m_room d n n') (mc := n' - n) (ms := m_sl n' - m_sl n) k hts (m_good hok) rfl rfl rfl (hts _ hok.2.1) (hts _ hlk) hok.2.2.2.1 ⟨Nat.le_refl _, by have := hok.2.2.2.2; show 8 + (Y'.2.2.1 + 11) + 64 * d ≤ 64 * (d + 1); omega⟩
  have hM := m_met l b X D cA hok hsl ca
  rw [hret] at hcb hM
  have hrun := va_runI (locs := locs) (e := e) (below := below) (meth := meth) (cells := n - n0) (slots := m_sl n - m_sl n0) (b := m_ad b X i) (g := F0 m pc lsr ((as.reverse ++ .ref i :: st).map (m_cv (m_ad b X)))) (As := as.map (m_cv (m_ad b X))) (rest := st.map (m_cv (m_ad b X))) ⟨hx, hb, hml, hown, hts⟩ hM ⟨hcb, hni, hts _ hins⟩
    ⟨m_Pc_blind, m_pre hF hN (.ref i :: as)⟩ rfl (by rw [List.length_map]; exact has) hN.2.2.1.1 (by simp [m_cv]) (lv_room (by rw [m_cats]; exact hst)) hd (m_fits hN.2.2.2 h1 h2 rfl)
  exact m_step hF hN h1 h2 hrun kk
theorem a_callN {i : Nat} (hd : decode Y.2.1 pc = .ok (.invokespecial idx, 3)) (hm : m_mN Y.1.cls idx Y' k) (has : as.length = k) (hsl : (lg_sl (.ref i :: as)).length ≤ Y'.2.2.1) (hst : (st.map fun v => v.category).sum ≤ 8) (hstk : stk = as.reverse ++ .ref i :: st) (h1 : n ≤ n') (h2 : n' ≤ nf)
    (ca : AW S d Y' n n' Q' 0 (lv_args 0 (.ref i :: as)) [] I J R n)
    (kk : ∀ (v : Option Value) (I' : mI) (J' : mJ) (R' : mR), Q' v I' J' R' → AW S (d + 1) Y n0 nf Q (pc + 3) lv (v.toList ++ st) I' J' R' n') : AW S (d + 1) Y n0 nf Q pc lv stk I J R n := by
  subst hstk
  intro p l e s m args below meth c b X D cA hF H locs lsr hN
  obtain ⟨hx, hb, hr, hlo, hml, hown, hnm, hts, hC, hsz⟩ := id hF
  obtain ⟨⟨ho, hlk⟩, hins, hni, hret, hok⟩ := hm
  have hnw : va_Nw (.methodLinkNest Y.1.cls idx Y'.1 ho) s := hC.2.2.2.1 _ hlk
  have hcb := va_cnB (R := m_room (d + 1) n0 nf) (rm := m_room d n n') (mc := n' - n) (ms := m_sl n' - m_sl n) (args := args) k hts (m_good hok) rfl rfl rfl hnw (hts _ hok.2.1) hok.2.2.2.1 ⟨Nat.le_refl _, by have := hok.2.2.2.2; show 8 + (Y'.2.2.1 + 11) + 64 * d ≤ 64 * (d + 1); omega⟩
  have hM := m_met l b X D cA hok hsl ca
  rw [hret] at hcb hM
  have hrun := va_runIN (locs := locs) (e := e) (below := below) (meth := meth) (cells := n - n0) (slots := m_sl n - m_sl n0) (b := m_ad b X i) (g := F0 m pc lsr ((as.reverse ++ .ref i :: st).map (m_cv (m_ad b X)))) (As := as.map (m_cv (m_ad b X))) (rest := st.map (m_cv (m_ad b X))) ⟨hx, hb, hml, hown, hts⟩ hM ⟨hcb, hni, hts _ hins⟩
    ⟨m_Pc_blind, m_pre hF hN (.ref i :: as)⟩ rfl (by rw [List.length_map]; exact has) hN.2.2.1.1 (by simp [m_cv]) (lv_room (by rw [m_cats]; exact hst)) hd (m_fits hN.2.2.2 h1 h2 rfl)
  exact m_step hF hN h1 h2 hrun kk
/-- the ends -/
theorem a_iret {v : Int32} (hd : decode Y.2.1 pc = .ok (.ireturn, 1)) (hr : Y.2.2.2 = some .int) (hq : Q (some (.int v)) I J R) : AW S d Y n0 n Q pc lv [.int v] I J R n :=
  fun p l e s m args below meth c b X D cA hF H locs lsr hN => W.iret (v := v) hF.1 hF.2.1 (hF.2.2.1.trans hr) (fun t ht hW => ⟨⟨some (.int v), I, J, R, rfl, hq, by rw [ht]; exact hN.1⟩, hN.2.1.F ht⟩) hN.2.1.2.2 hd hF.2.2.2.1
theorem a_zret {v : Int32} {ty : FieldType} (hd : decode Y.2.1 pc = .ok (.ireturn, 1)) (hr : Y.2.2.2 = some ty) (hn : narrow ty (.int v) = .int v) (hq : Q (some (.int v)) I J R) : AW S d Y n0 n Q pc lv [.int v] I J R n :=
  fun p l e s m args below meth c b X D cA hF H locs lsr hN => W.zret (v := v) hF.1 hF.2.1 (hF.2.2.1.trans hr) hn (fun t ht hW => ⟨⟨some (.int v), I, J, R, rfl, hq, by rw [ht]; exact hN.1⟩, hN.2.1.F ht⟩) hN.2.1.2.2 hd hF.2.2.2.1
theorem a_lret {v : Int64} (hd : decode Y.2.1 pc = .ok (.lreturn, 1)) (hr : Y.2.2.2 = some .long) (hq : Q (some (.long v)) I J R) : AW S d Y n0 n Q pc lv [.long v] I J R n :=
  fun p l e s m args below meth c b X D cA hF H locs lsr hN => W.lret (v := v) hF.1 hF.2.1 (hF.2.2.1.trans hr) (fun t ht hW => ⟨⟨some (.long v), I, J, R, rfl, hq, by rw [ht]; exact hN.1⟩, hN.2.1.F ht⟩) hN.2.1.2.2 hd hF.2.2.2.1
theorem a_vret (hd : decode Y.2.1 pc = .ok (.return_, 1)) (hr : Y.2.2.2 = none) (hq : Q none I J R) : AW S d Y n0 n Q pc lv [] I J R n :=
  fun p l e s m args below meth c b X D cA hF H locs lsr hN => W.vret hF.1 hF.2.1 (hF.2.2.1.trans hr) (fun t ht hW => ⟨⟨none, I, J, R, rfl, hq, by rw [ht]; exact hN.1⟩, hN.2.1.F ht⟩) hN.2.1.2.2 hd hF.2.2.2.1
end MK
