def R_law : String := "SortedOfficeLaw"
def lw_P (b : Addr) (xs : List Int32) (args : Array Value) (s : State) : Prop := args = #[.ref b] ∧ s.IntsAt b xs ∧ xs.length ≤ 3072 ∧ (Jvm.Cond.and given_1 narrow_1).before args s = true
def lw_Q (_ : Array Value) (s : State) (o : Outcome) (t : State) : Prop := o = .returned (some (.int 1)) ∧ Framed s o t [] 600000 7302250
def lw_Z (below : List Frame) (a : Array Value) (s : State) : State → Prop := fun t => ∃ o, t.status = .running ∧ Ended t below o ∧ lw_Q a s o t
/-- the law's own end, with 1 on the stack, nothing written that was there before, its room as the claim has it -/
theorem lw_ret {p : Program} {l : Launch} {e : Env} {s : State} {m : MethodId} {below : List Frame} {meth : Method} {c : Code} {b : Nat} (hx : p.tables.exec = Jvm.exec) (hb : c.code = code) (hr : meth.sig.returnType = ret) (hlocks : meth.locks = false) {pc : Nat} {H : Heap} {ls : Array Slot} (hdg : decode code pc = .ok (.ireturn, 1)) : W p l e room_1 s m #[Value.ref b] below meth c H [] 600000 7302250 (lw_Z below #[Value.ref b] s) (F0 m pc ls [.int 1]) := by
  intro T hT X
  obtain ⟨fs, hret, hrun, hended, hW, hframe⟩ := X.leave (v := some (.int 1)) (hlocks := hlocks) (fun h => by rw [hr] at h; cases h)
  have hmeth' : T.vm.method? m = some meth := X.method'
  refine ⟨T.setFrames fs, ?_, .returned (some (.int 1)), hrun, hended, rfl, ⟨_, rfl⟩, hW, hframe⟩
  jvm_step X.here [X.here.top, hx, hb, hdg, hmeth', hr, ret, narrow_b1]
  (try refine ⟨rfl, ?_⟩); (try refine ⟨rfl, ?_⟩)
  first | (intro acts; rw [hret _ acts rfl rfl rfl]) | rw [hret _ _ rfl rfl rfl]
  exact Steps.refl _
/-- what holds at the law's entry: the machine, the code, the tables' words (any of lw_tbl by 'hts w (by decide +kernel)'), the script of L ints xs at the cell b, what the Statement gives of the start (any of its parts by flat_of_before) -/
def lw_At (p : Program) (s : State) (m : MethodId) (meth : Method) (c : Code) (b L : Nat) (xs : Nat → Int32) : Prop :=
  p.tables.exec = Jvm.exec ∧ c.code = code ∧ meth.sig.returnType = ret ∧ c.maxLocals = 4 ∧ s.vm.findClass R_law = some m.cls ∧ (∀ w ∈ lw_tbl, w.before #[Value.ref b] s = true) ∧ va_X b L xs s s.heap ∧ b < s.heap.size ∧ meth.locks = false ∧ (Jvm.Cond.and given_1 narrow_1).before #[Value.ref b] s = true
def YL : mY := (x, code, 4, ret)
abbrev fC : List Cond := flatC (Jvm.Cond.and given_1 narrow_1)
theorem nf_L : ∀ j, j < 30 → Cond.eq (.elem (.static "SortedOffice$Reader" "LEAST" "[I") (.int (Int32.ofNat j))) (.int (m_least.getD j 0)) ∈ fC := by decide +kernel
theorem nf_M : ∀ j, j < 30 → Cond.eq (.elem (.static "SortedOffice$Reader" "MOST" "[I") (.int (Int32.ofNat j))) (.int (m_most.getD j 0)) ∈ fC := by decide +kernel
def tmS (i : Nat) : Term := .string "SortedOffice$Reader" ((m_strs.map Prod.fst).getD i 0)
theorem nf_ex : ∀ i, i < 19 → Cond.exactly (tmS i) "java/lang/String" ∈ fC := by decide +kernel
theorem nf_co : ∀ i, i < 19 → Cond.eq (.field (tmS i) "java/lang/String" "coder" "B") (.int 0) ∈ fC := by decide +kernel
theorem nf_ar : ∀ i, i < 19 → Cond.arrayOf (.field (tmS i) "java/lang/String" "value" "[B") .byte ∈ fC := by decide +kernel
theorem nf_le : ∀ i, i < 19 → Cond.eq (.length (.field (tmS i) "java/lang/String" "value" "[B")) (.int (Int32.ofNat (m_lens.getD i 0))) ∈ fC := by decide +kernel
theorem nf_el : ∀ i, i < 19 → ∀ j, j < m_lens.getD i 0 → Cond.eq (.elem (.field (tmS i) "java/lang/String" "value" "[B") (.int (Int32.ofNat j))) (.int ((m_byts.getD i []).getD j 0)) ∈ fC := by decide +kernel
theorem nf_nq : ∀ j, j < 18 → (fC.drop (([145, 156, 165, 177, 189, 202, 216, 232, 245, 261, 278, 296, 312, 331, 352, 375, 400, 428] : List Nat).getD j 0)).take (j + 1) = (List.range (j + 1)).map (fun i => Cond.not (Cond.eq (tmS i) (tmS (j + 1)))) := by decide +kernel
theorem nf_ne {i j : Nat} (hi : i < 19) (hj : j < 19) (hn : i ≠ j) : Cond.not (Cond.eq (tmS i) (tmS j)) ∈ fC ∨ Cond.not (Cond.eq (tmS j) (tmS i)) ∈ fC := by
  have go : ∀ i j, i < j → j < 19 → Cond.not (Cond.eq (tmS i) (tmS j)) ∈ fC := fun i j h1 h2 => by
    obtain ⟨j', rfl⟩ : ∃ j', j = j' + 1 := ⟨j - 1, by omega⟩
    have e := nf_nq j' (by omega)
    have hm : Cond.not (Cond.eq (tmS i) (tmS (j' + 1))) ∈ (List.range (j' + 1)).map (fun i => Cond.not (Cond.eq (tmS i) (tmS (j' + 1)))) := List.mem_map.mpr ⟨i, List.mem_range.mpr h1, rfl⟩
    rw [← e] at hm
    exact List.mem_of_mem_drop (List.mem_of_mem_take hm)
  rcases Nat.lt_or_ge i j with h | h
  · exact Or.inl (go i j h hj)
  · exact Or.inr (go j i (by omega) hi)
theorem nf_1 : Cond.eq (.static "java/lang/String" "COMPACT_STRINGS" "Z") (.int 1) ∈ fC ∧ Cond.isRef (.static "jdk/internal/util/Preconditions" "SIOOBE_FORMATTER" "Ljava/util/function/BiFunction;") ∈ fC ∧ Cond.arrayOf (.static "SortedOffice$Reader" "LEAST" "[I") .int ∈ fC ∧ Cond.eq (.length (.static "SortedOffice$Reader" "LEAST" "[I")) (.int 30) ∈ fC ∧ Cond.arrayOf (.static "SortedOffice$Reader" "MOST" "[I") .int ∈ fC ∧ Cond.eq (.length (.static "SortedOffice$Reader" "MOST" "[I")) (.int 30) ∈ fC := by decide +kernel
theorem nf_t : Cond.laysStatic "java/lang/String" "COMPACT_STRINGS" "Z" ∈ tables_1 ∧ Cond.laysStatic "jdk/internal/util/Preconditions" "SIOOBE_FORMATTER" "Ljava/util/function/BiFunction;" ∈ tables_1 ∧ Cond.laysStatic "SortedOffice$Reader" "LEAST" "[I" ∈ tables_1 ∧ Cond.laysStatic "SortedOffice$Reader" "MOST" "[I" ∈ tables_1 ∧ Cond.initialized "java/lang/String" ∈ tables_1 ∧ Cond.initialized "jdk/internal/util/Preconditions" ∈ tables_1 ∧ Cond.initialized "SortedOffice$Reader" ∈ tables_1 := by decide +kernel
theorem nf_nest : ∀ q ∈ m_nests, Cond.methodLinkNest q.1 q.2.1 q.2.2.1 q.2.2.2 ∈ tables_1 := by decide +kernel
theorem nf_ao : ∀ C ∈ m_aos, Cond.arrayOver (.object C) ∈ tables_1 := by decide +kernel
theorem nf_ac : Cond.arrayClass .int ∈ tables_1 ∧ Cond.arrayClass .byte ∈ tables_1 ∧ Cond.arrayClass .boolean ∈ tables_1 := by decide +kernel
theorem nf_st : ∀ i, i < 19 → Cond.stringRef "SortedOffice$Reader" ((m_strs.map Prod.fst).getD i 0) ((m_strs.map Prod.snd).getD i "") ∈ tables_1 := by decide +kernel
theorem nf_in : ∀ k, k < 13 → Cond.instantiable ((m_cl.map (fun q => q.1)).getD k "") ((m_cl.map (fun q => q.2.2)).getD k 0) ∈ tables_1 := by decide +kernel
