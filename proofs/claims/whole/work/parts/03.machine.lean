abbrev mI : Type := Nat → Nat → Int32
abbrev mJ : Type := Nat → Nat → Int64
abbrev mR : Type := Nat → Nat → Option Nat
/-- a method: its name, its bytes, its locals, its answer's type -/
abbrev mY : Type := MethodName × ByteArray × Nat × Option FieldType
/-- the words that every call may take along -/
def m_gd : List Cond := lw_tbl.filter goodWord
def m_nests : List (String × Nat × MethodName × String) := [("SortedOffice", 9, ⟨"SortedOffice$Told", "<init>", "()V"⟩, "SortedOffice"), ("SortedOffice$Told", 25, ⟨"SortedOffice$Office", "<init>", "()V"⟩, "SortedOffice"), ("SortedOffice$Told", 32, ⟨"SortedOffice$Week", "<init>", "()V"⟩, "SortedOffice"), ("SortedOffice$Told", 39, ⟨"SortedOffice$Log", "<init>", "()V"⟩, "SortedOffice"), ("SortedOffice", 22, ⟨"SortedOffice$Reader", "<init>", "()V"⟩, "SortedOffice"), ("SortedOffice$Reader", 11, ⟨"SortedOffice$Office", "<init>", "()V"⟩, "SortedOffice"), ("SortedOffice$Reader", 20, ⟨"SortedOffice$Week", "<init>", "()V"⟩, "SortedOffice"), ("SortedOffice$Reader", 27, ⟨"SortedOffice$Log", "<init>", "()V"⟩, "SortedOffice"), ("SortedOffice", 29, ⟨"SortedOffice$Course", "<init>", "()V"⟩, "SortedOffice"), ("SortedOffice", 36, ⟨"SortedOffice$Orders", "<init>", "()V"⟩, "SortedOffice"), ("SortedOffice$Orders", 32, ⟨"SortedOffice$Office", "<init>", "()V"⟩, "SortedOffice"), ("SortedOffice", 43, ⟨"SortedOffice$Racks", "<init>", "()V"⟩, "SortedOffice"), ("SortedOffice", 50, ⟨"SortedOffice$Bags", "<init>", "()V"⟩, "SortedOffice"), ("SortedOffice", 57, ⟨"SortedOffice$Slips", "<init>", "()V"⟩, "SortedOffice"), ("SortedOffice$Slips", 20, ⟨"SortedOffice$Course", "<init>", "()V"⟩, "SortedOffice"), ("SortedOffice", 64, ⟨"SortedOffice$Chances", "<init>", "()V"⟩, "SortedOffice")]
def m_aos : List String := ["SortedOffice$Told", "SortedOffice$Office", "SortedOffice$Week", "SortedOffice$Log"]
def m_nst (U : State) : Prop := (∀ q ∈ m_nests, va_Nw (.methodLinkNest q.1 q.2.1 q.2.2.1 q.2.2.2) U) ∧ ∀ C ∈ m_aos, va_AO C U
/-- a cell's number and its address: below a million our own cells, from the base on; above, what was there before -/
def m_ad (b : Nat) (X : Nat → Nat) (i : Nat) : Nat := if i < 1000000 then b + i else X i
def m_cv (ad : Nat → Nat) (v : Value) : Value := match v with
  | .ref i => .ref (ad i)
  | v => v
def m_rv (r : Option Nat) : Value := match r with
  | some i => .ref i
  | none => .null
def m_fv (ad : Nat → Nat) (t : Nat) (x : Int32) (y : Int64) (r : Option Nat) : Value := match t with
  | 0 => .int x
  | 1 => .long y
  | _ => m_cv ad (m_rv r)
def m_fs (ad : Nat → Nat) (I : mI) (J : mJ) (R : mR) (ci N i : Nat) : List Value := (List.range N).map (fun k => m_fv ad (m_sty ci k) (I i k) (J i k) (R i k))
def m_ent (ad : Nat → Nat) (cA : Nat → ClassId) (I : mI) (J : mJ) (R : mR) (i : Nat) : va_E :=
  if (m_lay i).1 < 50 then .inr ((m_lay i).1, m_fs ad I J R (m_lay i).1 (m_lay i).2 i)
  else .inl (cA (m_lay i).1, (m_lay i).2, if (m_lay i).1 < 53 then .inl (I i) else .inr (.inr (.inr (.inr (fun k => (R i k).map ad)))))
def m_ws (ad : Nat → Nat) (cA : Nat → ClassId) (I : mI) (J : mJ) (R : mR) (n : Nat) : va_W := (List.range n).map (fun i => (ad i, m_ent ad cA I J R i))
abbrev m_tys (cA : Nat → ClassId) : List (ClassId × FieldType) := [(cA 50, .int), (cA 51, .byte), (cA 52, .boolean), (cA 53, .object "SortedOffice$Told"), (cA 54, .object "SortedOffice$Office"), (cA 55, .object "SortedOffice$Week"), (cA 56, .object "SortedOffice$Log")]
def m_sl (n : Nat) : Nat := ((List.range n).map (fun i => (m_lay i).2)).sum
def m_fit (I : mI) : Prop := ∀ i, (m_lay i).1 = 51 → ∀ k, fits .byte (.int (I i k)) = true
abbrev m_A (b : Nat) : Nat → Prop := fun q => b ≤ q
def m_least : List Int32 := [1, 0, 0, 0, 0, 0, 0, 1, 0, 0, 0, 0, 0, 0, 0, 0, 0, 0, 0, 0, 0, 0, 0, 0, 0, 0, 0, 0, 0, 0]
def m_most : List Int32 := [6, 0, 0, 5, 50, 0, 5, 9, 0, 9, 0, 0, 9, 9, 3, 9, 0, 0, 9, 5, 0, 9, 0, 0, 0, 0, 0, 5, 99, 0]
def m_strs : List (Nat × String) := [(162, "houses"), (167, "mood"), (169, "letter"), (171, "law"), (173, "minds"), (175, "give"), (177, "slip"), (179, "burn"), (181, "night"), (183, "n"), (185, "nkn"), (187, "kkn"), (189, "nnn"), (191, ""), (193, "nn"), (198, "joy"), (200, "blow"), (202, "money"), (204, "nothing")]
def m_lens : List Nat := [6, 4, 6, 3, 5, 4, 4, 4, 5, 1, 3, 3, 3, 0, 2, 3, 4, 5, 7]
def m_byts : List (List Int32) := [[104, 111, 117, 115, 101, 115], [109, 111, 111, 100], [108, 101, 116, 116, 101, 114], [108, 97, 119], [109, 105, 110, 100, 115], [103, 105, 118, 101], [115, 108, 105, 112], [98, 117, 114, 110], [110, 105, 103, 104, 116], [110], [110, 107, 110], [107, 107, 110], [110, 110, 110], [], [110, 110], [106, 111, 121], [98, 108, 111, 119], [109, 111, 110, 101, 121], [110, 111, 116, 104, 105, 110, 103]]
/-- what was there before and stays: the script, two tables, the texts -/
def m_ext (X : Nat → Nat) (S : Nat × (Nat → Int32)) (A : Nat → Prop) (U : State) (H : Heap) : Prop :=
  va_T .int (X 1000000) S.1 (fun j => .int (S.2 j)) A U H ∧
  (va_Z "SortedOffice$Reader" "LEAST" "[I" (.ref (X 1000001)) A U H ∧ va_T .int (X 1000001) 30 (fun j => .int (m_least.getD j 0)) A U H) ∧
  (va_Z "SortedOffice$Reader" "MOST" "[I" (.ref (X 1000002)) A U H ∧ va_T .int (X 1000002) 30 (fun j => .int (m_most.getD j 0)) A U H) ∧
  (va_Z "java/lang/String" "COMPACT_STRINGS" "Z" (.int 1) A U H ∧ (va_Z "jdk/internal/util/Preconditions" "SIOOBE_FORMATTER" "Ljava/util/function/BiFunction;" .null A U H ∨ va_Z "jdk/internal/util/Preconditions" "SIOOBE_FORMATTER" "Ljava/util/function/BiFunction;" (.ref (X 1000003)) A U H)) ∧
  vk_S 19 m_lens m_byts (fun i => X (1000010 + i)) (fun i => X (1000050 + i)) A U H
def m_txt (X : Nat → Nat) (U : State) : Prop := ∀ (i : Nat) (q : Nat × String), m_strs[i]? = some q → vk_R "SortedOffice$Reader" q.1 q.2 (X (1000010 + i)) U
/-- what a start of a method brings, and a call takes along -/
def m_car (S : Nat × (Nat → Int32)) (b : Nat) (X : Nat → Nat) (D : va_G) (cA : Nat → ClassId) (U : State) : Prop :=
  va_K D m_cl (m_tys cA) U ∧ m_ext X S (m_A b) U U.heap ∧ m_txt X U ∧ m_nst U
def m_at (b : Nat) (X : Nat → Nat) (D : va_G) (cA : Nat → ClassId) (I : mI) (J : mJ) (R : mR) (n : Nat) (H : Heap) : Prop :=
  H.size = b + n ∧ n ≤ 1000000 ∧ va_P D m_cl (m_ws (m_ad b X) cA I J R n) H ∧ m_fit I
def m_Qc (b : Nat) (X : Nat → Nat) (D : va_G) (cA : Nat → ClassId) (nf : Nat) (Q : Option Value → mI → mJ → mR → Prop) : Array Value → State → Outcome → State → Prop := fun _ st o t =>
  (∃ (v : Option Value) (I : mI) (J : mJ) (R : mR), o = .returned (v.map (m_cv (m_ad b X))) ∧ Q v I J R ∧ m_at b X D cA I J R nf t.heap) ∧ va_F (m_A b) st t
abbrev m_room (d n0 nf : Nat) : Room := { frames := d, cells := nf - n0, slots := m_sl nf - m_sl n0, locals := 64 * d }
def m_lvc (ad : Nat → Nat) (lv : List (Nat × Value)) : List (Nat × Value) := lv.map (fun q => (q.1, m_cv ad q.2))
def m_fix (S : Nat × (Nat → Int32)) (Y : mY) (p : Program) (s : State) (m : MethodId) (args : Array Value) (meth : Method) (c : Code) (b : Nat) (X : Nat → Nat) (D : va_G) (cA : Nat → ClassId) (n0 : Nat) : Prop :=
  p.tables.exec = Jvm.exec ∧ c.code = Y.2.1 ∧ meth.sig.returnType = Y.2.2.2 ∧ meth.locks = false ∧ c.maxLocals = Y.2.2.1 ∧ s.vm.findClass Y.1.cls = some m.cls ∧ meth.name = Y.1.name ∧ (∀ w ∈ m_gd, w.before args s = true) ∧ m_car S b X D cA s ∧ s.heap.size = b + n0
def m_now (Y : mY) (s : State) (b : Nat) (X : Nat → Nat) (D : va_G) (cA : Nat → ClassId) (n0 : Nat) (lv : List (Nat × Value)) (I : mI) (J : mJ) (R : mR) (n : Nat) (H : Heap) (locs : List Loc) (lsr : Array Slot) : Prop :=
  m_at b X D cA I J R n H ∧ va_S (m_A b) s.heap H locs ∧ lv_has lsr Y.2.2.1 (m_lvc (m_ad b X) lv) ∧ n0 ≤ n
/-- from this place on, the method comes to its end with Q -/
def AW (S : Nat × (Nat → Int32)) (d : Nat) (Y : mY) (n0 nf : Nat) (Q : Option Value → mI → mJ → mR → Prop) (pc : Nat) (lv : List (Nat × Value)) (st : List Value) (I : mI) (J : mJ) (R : mR) (n : Nat) : Prop :=
  ∀ (p : Program) (l : Launch) (e : Env) (s : State) (m : MethodId) (args : Array Value) (below : List Frame) (meth : Method) (c : Code) (b : Nat) (X : Nat → Nat) (D : va_G) (cA : Nat → ClassId), m_fix S Y p s m args meth c b X D cA n0 →
    ∀ (H : Heap) (locs : List Loc) (lsr : Array Slot), m_now Y s b X D cA n0 lv I J R n H locs lsr →
      W p l e (m_room d n0 nf) s m args below meth c H locs (n - n0) (m_sl n - m_sl n0) (MQ below (m_Qc b X D cA nf Q) args s (nf - n0) (m_sl nf - m_sl n0) (m_A b)) (F0 m pc lsr (st.map (m_cv (m_ad b X))))
theorem m_cv_cat (ad : Nat → Nat) (v : Value) : (m_cv ad v).category = v.category := by cases v <;> rfl
theorem m_lvc_get {ad : Nat → Nat} {lv : List (Nat × Value)} {k i : Nat} {v : Value} (h : lv[k]? = some (i, v)) : (m_lvc ad lv)[k]? = some (i, m_cv ad v) := by
  simp [m_lvc, h]
theorem m_lvc_filter1 {ad : Nat → Nat} {lv : List (Nat × Value)} {i : Nat} : (m_lvc ad lv).filter (fun q => !(q.1 == i) && !(q.1 + 1 == i && q.2.category == 2)) = m_lvc ad (lv.filter (fun q => !(q.1 == i) && !(q.1 + 1 == i && q.2.category == 2))) := by
  simp only [m_lvc, List.filter_map]
  congr 1
  apply List.filter_congr
  intro q _
  simp [m_cv_cat]
theorem m_lvc_filter2 {ad : Nat → Nat} {lv : List (Nat × Value)} {i : Nat} : (m_lvc ad lv).filter (fun q => !(q.1 == i) && (!(q.1 == i + 1) && !(q.1 + 1 == i && q.2.category == 2))) = m_lvc ad (lv.filter (fun q => !(q.1 == i) && (!(q.1 == i + 1) && !(q.1 + 1 == i && q.2.category == 2)))) := by
  simp only [m_lvc, List.filter_map]
  congr 1
  apply List.filter_congr
  intro q _
  simp [m_cv_cat]
/-- a store of one word; of two -/
def m_st1 (i : Nat) (v : Value) (lv : List (Nat × Value)) : List (Nat × Value) := (i, v) :: lv.filter (fun q => !(q.1 == i) && !(q.1 + 1 == i && q.2.category == 2))
def m_st2 (i : Nat) (v : Value) (lv : List (Nat × Value)) : List (Nat × Value) := (i, v) :: lv.filter (fun q => !(q.1 == i) && (!(q.1 == i + 1) && !(q.1 + 1 == i && q.2.category == 2)))
theorem m_st1_c {ad : Nat → Nat} {lv : List (Nat × Value)} {i : Nat} {v : Value} : (i, m_cv ad v) :: (m_lvc ad lv).filter (fun q => !(q.1 == i) && !(q.1 + 1 == i && q.2.category == 2)) = m_lvc ad (m_st1 i v lv) := by
  rw [m_lvc_filter1]; rfl
theorem m_st2_c {ad : Nat → Nat} {lv : List (Nat × Value)} {i : Nat} {v : Value} : (i, m_cv ad v) :: (m_lvc ad lv).filter (fun q => !(q.1 == i) && (!(q.1 == i + 1) && !(q.1 + 1 == i && q.2.category == 2))) = m_lvc ad (m_st2 i v lv) := by
  rw [m_lvc_filter2]; rfl
section MR
variable {S : Nat × (Nat → Int32)} {d : Nat} {Y : mY} {n0 nf : Nat} {Q : Option Value → mI → mJ → mR → Prop} {pc : Nat} {lv lv' : List (Nat × Value)} {st : List Value} {I : mI} {J : mJ} {R : mR} {n : Nat}
theorem a_locs (ks : List Nat) (hl : lv_pick lv ks = lv') (k : AW S d Y n0 nf Q pc lv' st I J R n) : AW S d Y n0 nf Q pc lv st I J R n := by
  intro p l e s m args below meth c b X D cA hF H locs lsr hN
  refine k p l e s m args below meth c b X D cA hF H locs lsr ⟨hN.1, hN.2.1, ?_, hN.2.2.2⟩
  refine lv_sub hN.2.2.1 ks ?_
  subst hl
  simp only [lv_pick, m_lvc, List.getElem?_map, List.map_filterMap, List.filterMap_map]
theorem a_topi {x : Int32} (k : ∀ y : Int32, y = x → AW S d Y n0 nf Q pc lv (.int y :: st) I J R n) : AW S d Y n0 nf Q pc lv (.int x :: st) I J R n := k x rfl
theorem a_topl {x : Int64} (k : ∀ y : Int64, y = x → AW S d Y n0 nf Q pc lv (.long y :: st) I J R n) : AW S d Y n0 nf Q pc lv (.long x :: st) I J R n := k x rfl
theorem a_iconst {z : Int} {v : Int32} (hd : decode Y.2.1 pc = .ok (.iconst z, 1)) (hv : Int32.ofInt z = v) (k : AW S d Y n0 nf Q (pc + 1) lv (.int v :: st) I J R n) : AW S d Y n0 nf Q pc lv st I J R n :=
  fun p l e s m args below meth c b X D cA hF H locs lsr hN => lv_iconst hF.1 hF.2.1 hd hv (k p l e s m args below meth c b X D cA hF H locs lsr hN)
theorem a_bipush {z : Int} {v : Int32} (hd : decode Y.2.1 pc = .ok (.bipush z, 2)) (hv : (Int8.ofInt z).toInt32 = v) (k : AW S d Y n0 nf Q (pc + 2) lv (.int v :: st) I J R n) : AW S d Y n0 nf Q pc lv st I J R n :=
  fun p l e s m args below meth c b X D cA hF H locs lsr hN => lv_bipush hF.1 hF.2.1 hd hv (k p l e s m args below meth c b X D cA hF H locs lsr hN)
theorem a_sipush {z : Int} {v : Int32} (hd : decode Y.2.1 pc = .ok (.sipush z, 3)) (hv : (Int16.ofInt z).toInt32 = v) (k : AW S d Y n0 nf Q (pc + 3) lv (.int v :: st) I J R n) : AW S d Y n0 nf Q pc lv st I J R n :=
  fun p l e s m args below meth c b X D cA hF H locs lsr hN => lv_sipush hF.1 hF.2.1 hd hv (k p l e s m args below meth c b X D cA hF H locs lsr hN)
theorem a_lconst {z : Fin 2} {v : Int64} (hd : decode Y.2.1 pc = .ok (.lconst z, 1)) (hv : Int64.ofNat (z : Nat) = v) (k : AW S d Y n0 nf Q (pc + 1) lv (.long v :: st) I J R n) : AW S d Y n0 nf Q pc lv st I J R n :=
  fun p l e s m args below meth c b X D cA hF H locs lsr hN => lv_lconst hF.1 hF.2.1 hd hv (k p l e s m args below meth c b X D cA hF H locs lsr hN)
theorem a_null  (hd : decode Y.2.1 pc = .ok (.aconst_null, 1)) (k : AW S d Y n0 nf Q (pc + 1) lv (.null :: st) I J R n) : AW S d Y n0 nf Q pc lv st I J R n :=
  fun p l e s m args below meth c b X D cA hF H locs lsr hN => lv_null hF.1 hF.2.1 hd (k p l e s m args below meth c b X D cA hF H locs lsr hN)
theorem a_iadd {x y : Int32} (hd : decode Y.2.1 pc = .ok (.iadd, 1)) (k : AW S d Y n0 nf Q (pc + 1) lv (.int (x + y) :: st) I J R n) : AW S d Y n0 nf Q pc lv (.int y :: .int x :: st) I J R n :=
  fun p l e s m args below meth c b X D cA hF H locs lsr hN => lv_iadd hF.1 hF.2.1 hd (k p l e s m args below meth c b X D cA hF H locs lsr hN)
theorem a_isub {x y : Int32} (hd : decode Y.2.1 pc = .ok (.isub, 1)) (k : AW S d Y n0 nf Q (pc + 1) lv (.int (x - y) :: st) I J R n) : AW S d Y n0 nf Q pc lv (.int y :: .int x :: st) I J R n :=
  fun p l e s m args below meth c b X D cA hF H locs lsr hN => lv_isub hF.1 hF.2.1 hd (k p l e s m args below meth c b X D cA hF H locs lsr hN)
theorem a_imul {x y : Int32} (hd : decode Y.2.1 pc = .ok (.imul, 1)) (k : AW S d Y n0 nf Q (pc + 1) lv (.int (x * y) :: st) I J R n) : AW S d Y n0 nf Q pc lv (.int y :: .int x :: st) I J R n :=
  fun p l e s m args below meth c b X D cA hF H locs lsr hN => lv_imul hF.1 hF.2.1 hd (k p l e s m args below meth c b X D cA hF H locs lsr hN)
theorem a_iand {x y : Int32} (hd : decode Y.2.1 pc = .ok (.iand, 1)) (k : AW S d Y n0 nf Q (pc + 1) lv (.int (x &&& y) :: st) I J R n) : AW S d Y n0 nf Q pc lv (.int y :: .int x :: st) I J R n :=
  fun p l e s m args below meth c b X D cA hF H locs lsr hN => lv_iand hF.1 hF.2.1 hd (k p l e s m args below meth c b X D cA hF H locs lsr hN)
theorem a_ior {x y : Int32} (hd : decode Y.2.1 pc = .ok (.ior, 1)) (k : AW S d Y n0 nf Q (pc + 1) lv (.int (x ||| y) :: st) I J R n) : AW S d Y n0 nf Q pc lv (.int y :: .int x :: st) I J R n :=
  fun p l e s m args below meth c b X D cA hF H locs lsr hN => lv_ior hF.1 hF.2.1 hd (k p l e s m args below meth c b X D cA hF H locs lsr hN)
theorem a_ixor {x y : Int32} (hd : decode Y.2.1 pc = .ok (.ixor, 1)) (k : AW S d Y n0 nf Q (pc + 1) lv (.int (x ^^^ y) :: st) I J R n) : AW S d Y n0 nf Q pc lv (.int y :: .int x :: st) I J R n :=
  fun p l e s m args below meth c b X D cA hF H locs lsr hN => lv_ixor hF.1 hF.2.1 hd (k p l e s m args below meth c b X D cA hF H locs lsr hN)
theorem a_ishl {x y : Int32} (hd : decode Y.2.1 pc = .ok (.ishl, 1)) (k : AW S d Y n0 nf Q (pc + 1) lv (.int (x <<< (y &&& 31)) :: st) I J R n) : AW S d Y n0 nf Q pc lv (.int y :: .int x :: st) I J R n :=
  fun p l e s m args below meth c b X D cA hF H locs lsr hN => lv_ishl hF.1 hF.2.1 hd (k p l e s m args below meth c b X D cA hF H locs lsr hN)
theorem a_ishr {x y : Int32} (hd : decode Y.2.1 pc = .ok (.ishr, 1)) (k : AW S d Y n0 nf Q (pc + 1) lv (.int (x >>> (y &&& 31)) :: st) I J R n) : AW S d Y n0 nf Q pc lv (.int y :: .int x :: st) I J R n :=
  fun p l e s m args below meth c b X D cA hF H locs lsr hN => lv_ishr hF.1 hF.2.1 hd (k p l e s m args below meth c b X D cA hF H locs lsr hN)
theorem a_idiv {x y : Int32} (hd : decode Y.2.1 pc = .ok (.idiv, 1)) (hne : ¬ y = 0) (k : AW S d Y n0 nf Q (pc + 1) lv (.int (x / y) :: st) I J R n) : AW S d Y n0 nf Q pc lv (.int y :: .int x :: st) I J R n :=
  fun p l e s m args below meth c b X D cA hF H locs lsr hN => lv_idiv hF.1 hF.2.1 hd hne (k p l e s m args below meth c b X D cA hF H locs lsr hN)
theorem a_irem {x y : Int32} (hd : decode Y.2.1 pc = .ok (.irem, 1)) (hne : ¬ y = 0) (k : AW S d Y n0 nf Q (pc + 1) lv (.int (x - x / y * y) :: st) I J R n) : AW S d Y n0 nf Q pc lv (.int y :: .int x :: st) I J R n :=
  fun p l e s m args below meth c b X D cA hF H locs lsr hN => lv_irem hF.1 hF.2.1 hd hne (k p l e s m args below meth c b X D cA hF H locs lsr hN)
theorem a_ineg {x : Int32} (hd : decode Y.2.1 pc = .ok (.ineg, 1)) (k : AW S d Y n0 nf Q (pc + 1) lv (.int (-x) :: st) I J R n) : AW S d Y n0 nf Q pc lv (.int x :: st) I J R n :=
  fun p l e s m args below meth c b X D cA hF H locs lsr hN => lv_ineg hF.1 hF.2.1 hd (k p l e s m args below meth c b X D cA hF H locs lsr hN)
theorem a_iushr {x y : Int32} (hd : decode Y.2.1 pc = .ok (.iushr, 1)) (k : AW S d Y n0 nf Q (pc + 1) lv (.int (x.toUInt32 >>> (y.toUInt32 &&& Int32.toUInt32 31)).toInt32 :: st) I J R n) : AW S d Y n0 nf Q pc lv (.int y :: .int x :: st) I J R n :=
  fun p l e s m args below meth c b X D cA hF H locs lsr hN => lv_iushr hF.1 hF.2.1 hd rfl (k p l e s m args below meth c b X D cA hF H locs lsr hN)
theorem a_i2l {x : Int32} (hd : decode Y.2.1 pc = .ok (.i2l, 1)) (k : AW S d Y n0 nf Q (pc + 1) lv (.long x.toInt64 :: st) I J R n) : AW S d Y n0 nf Q pc lv (.int x :: st) I J R n :=
  fun p l e s m args below meth c b X D cA hF H locs lsr hN => lv_i2l hF.1 hF.2.1 hd rfl (k p l e s m args below meth c b X D cA hF H locs lsr hN)
theorem a_l2i {x : Int64} (hd : decode Y.2.1 pc = .ok (.l2i, 1)) (k : AW S d Y n0 nf Q (pc + 1) lv (.int x.toInt32 :: st) I J R n) : AW S d Y n0 nf Q pc lv (.long x :: st) I J R n :=
  fun p l e s m args below meth c b X D cA hF H locs lsr hN => lv_l2i hF.1 hF.2.1 hd rfl (k p l e s m args below meth c b X D cA hF H locs lsr hN)
theorem a_i2b {x : Int32} (hd : decode Y.2.1 pc = .ok (.i2b, 1)) (k : AW S d Y n0 nf Q (pc + 1) lv (.int x.toInt8.toInt32 :: st) I J R n) : AW S d Y n0 nf Q pc lv (.int x :: st) I J R n :=
  fun p l e s m args below meth c b X D cA hF H locs lsr hN => lv_i2b hF.1 hF.2.1 hd rfl (k p l e s m args below meth c b X D cA hF H locs lsr hN)
theorem a_i2c {x v : Int32} (hd : decode Y.2.1 pc = .ok (.i2c, 1)) (hv : x.toUInt32.toUInt16.toUInt32.toInt32 = v) (k : AW S d Y n0 nf Q (pc + 1) lv (.int v :: st) I J R n) : AW S d Y n0 nf Q pc lv (.int x :: st) I J R n :=
  fun p l e s m args below meth c b X D cA hF H locs lsr hN => lv_i2c hF.1 hF.2.1 hd hv (k p l e s m args below meth c b X D cA hF H locs lsr hN)
theorem a_ladd {x y : Int64} (hd : decode Y.2.1 pc = .ok (.ladd, 1)) (k : AW S d Y n0 nf Q (pc + 1) lv (.long (x + y) :: st) I J R n) : AW S d Y n0 nf Q pc lv (.long y :: .long x :: st) I J R n :=
  fun p l e s m args below meth c b X D cA hF H locs lsr hN => lv_ladd hF.1 hF.2.1 hd (k p l e s m args below meth c b X D cA hF H locs lsr hN)
theorem a_lsub {x y : Int64} (hd : decode Y.2.1 pc = .ok (.lsub, 1)) (k : AW S d Y n0 nf Q (pc + 1) lv (.long (x - y) :: st) I J R n) : AW S d Y n0 nf Q pc lv (.long y :: .long x :: st) I J R n :=
  fun p l e s m args below meth c b X D cA hF H locs lsr hN => lv_lsub hF.1 hF.2.1 hd (k p l e s m args below meth c b X D cA hF H locs lsr hN)
theorem a_lmul {x y : Int64} (hd : decode Y.2.1 pc = .ok (.lmul, 1)) (k : AW S d Y n0 nf Q (pc + 1) lv (.long (x * y) :: st) I J R n) : AW S d Y n0 nf Q pc lv (.long y :: .long x :: st) I J R n :=
  fun p l e s m args below meth c b X D cA hF H locs lsr hN => lv_lmul hF.1 hF.2.1 hd (k p l e s m args below meth c b X D cA hF H locs lsr hN)
theorem a_lor {x y : Int64} (hd : decode Y.2.1 pc = .ok (.lor, 1)) (k : AW S d Y n0 nf Q (pc + 1) lv (.long (x ||| y) :: st) I J R n) : AW S d Y n0 nf Q pc lv (.long y :: .long x :: st) I J R n :=
  fun p l e s m args below meth c b X D cA hF H locs lsr hN => lv_lor hF.1 hF.2.1 hd (k p l e s m args below meth c b X D cA hF H locs lsr hN)
theorem a_ldiv {x y : Int64} (hd : decode Y.2.1 pc = .ok (.ldiv, 1)) (hne : ¬ y = 0) (k : AW S d Y n0 nf Q (pc + 1) lv (.long (x / y) :: st) I J R n) : AW S d Y n0 nf Q pc lv (.long y :: .long x :: st) I J R n :=
  fun p l e s m args below meth c b X D cA hF H locs lsr hN => lv_ldiv hF.1 hF.2.1 hd hne (k p l e s m args below meth c b X D cA hF H locs lsr hN)
theorem a_lrem {x y : Int64} (hd : decode Y.2.1 pc = .ok (.lrem, 1)) (hne : ¬ y = 0) (k : AW S d Y n0 nf Q (pc + 1) lv (.long (x - x / y * y) :: st) I J R n) : AW S d Y n0 nf Q pc lv (.long y :: .long x :: st) I J R n :=
  fun p l e s m args below meth c b X D cA hF H locs lsr hN => lv_lrem hF.1 hF.2.1 hd hne (k p l e s m args below meth c b X D cA hF H locs lsr hN)
theorem a_lneg {x : Int64} (hd : decode Y.2.1 pc = .ok (.lneg, 1)) (k : AW S d Y n0 nf Q (pc + 1) lv (.long (-x) :: st) I J R n) : AW S d Y n0 nf Q pc lv (.long x :: st) I J R n :=
  fun p l e s m args below meth c b X D cA hF H locs lsr hN => lv_lneg hF.1 hF.2.1 hd (k p l e s m args below meth c b X D cA hF H locs lsr hN)
theorem a_lshl {x : Int64} {y : Int32} (hd : decode Y.2.1 pc = .ok (.lshl, 1)) (k : AW S d Y n0 nf Q (pc + 1) lv (.long (x <<< (y.toInt64 &&& 63)) :: st) I J R n) : AW S d Y n0 nf Q pc lv (.int y :: .long x :: st) I J R n :=
  fun p l e s m args below meth c b X D cA hF H locs lsr hN => lv_lshl hF.1 hF.2.1 hd rfl (k p l e s m args below meth c b X D cA hF H locs lsr hN)
theorem a_lcmp {x y : Int64} (hd : decode Y.2.1 pc = .ok (.lcmp, 1)) (k : AW S d Y n0 nf Q (pc + 1) lv (.int (lg_cmp x y) :: st) I J R n) : AW S d Y n0 nf Q pc lv (.long y :: .long x :: st) I J R n :=
  fun p l e s m args below meth c b X D cA hF H locs lsr hN => W.lcmp hF.1 hF.2.1 hd (k p l e s m args below meth c b X D cA hF H locs lsr hN)
theorem a_dup {va : Value} (hd : decode Y.2.1 pc = .ok (.dup, 1)) (hva : va.category = 1) (k : AW S d Y n0 nf Q (pc + 1) lv (va :: va :: st) I J R n) : AW S d Y n0 nf Q pc lv (va :: st) I J R n :=
  fun p l e s m args below meth c b X D cA hF H locs lsr hN => lv_dup hF.1 hF.2.1 hd (by rw [m_cv_cat]; exact hva) (k p l e s m args below meth c b X D cA hF H locs lsr hN)
theorem a_pop {va : Value} (hd : decode Y.2.1 pc = .ok (.pop, 1)) (hva : va.category = 1) (k : AW S d Y n0 nf Q (pc + 1) lv st I J R n) : AW S d Y n0 nf Q pc lv (va :: st) I J R n :=
  fun p l e s m args below meth c b X D cA hF H locs lsr hN => lv_pop hF.1 hF.2.1 hd (by rw [m_cv_cat]; exact hva) (k p l e s m args below meth c b X D cA hF H locs lsr hN)
theorem a_dup2 {va vb : Value} (hd : decode Y.2.1 pc = .ok (.dup2, 1)) (hva : va.category = 1) (hvb : vb.category = 1) (k : AW S d Y n0 nf Q (pc + 1) lv (va :: vb :: va :: vb :: st) I J R n) : AW S d Y n0 nf Q pc lv (va :: vb :: st) I J R n :=
  fun p l e s m args below meth c b X D cA hF H locs lsr hN => lv_dup2_11 hF.1 hF.2.1 hd (by rw [m_cv_cat]; exact hva) (by rw [m_cv_cat]; exact hvb) (k p l e s m args below meth c b X D cA hF H locs lsr hN)
theorem a_dup2l {va : Value} (hd : decode Y.2.1 pc = .ok (.dup2, 1)) (hva : va.category = 2) (k : AW S d Y n0 nf Q (pc + 1) lv (va :: va :: st) I J R n) : AW S d Y n0 nf Q pc lv (va :: st) I J R n :=
  fun p l e s m args below meth c b X D cA hF H locs lsr hN => lv_dup2_2 hF.1 hF.2.1 hd (by rw [m_cv_cat]; exact hva) (k p l e s m args below meth c b X D cA hF H locs lsr hN)
theorem a_iload {i : Nat} {x : Int32} (j : Nat) (hd : decode Y.2.1 pc = .ok (.iload i, 2)) (hl : lv[j]? = some (i, .int x)) (k : AW S d Y n0 nf Q (pc + 2) lv (.int x :: st) I J R n) : AW S d Y n0 nf Q pc lv st I J R n :=
  fun p l e s m args below meth c b X D cA hF H locs lsr hN => lv_iload hF.1 hF.2.1 hd (lv_at hN.2.2.1 j (m_lvc_get hl)) (k p l e s m args below meth c b X D cA hF H locs lsr hN)
theorem a_iload_n {q : Fin 4} {i : Nat} {x : Int32} (j : Nat) (hd : decode Y.2.1 pc = .ok (.iload_n q, 1)) (hq : (q : Nat) = i) (hl : lv[j]? = some (i, .int x)) (k : AW S d Y n0 nf Q (pc + 1) lv (.int x :: st) I J R n) : AW S d Y n0 nf Q pc lv st I J R n :=
  fun p l e s m args below meth c b X D cA hF H locs lsr hN => lv_iload_n hF.1 hF.2.1 hd hq (lv_at hN.2.2.1 j (m_lvc_get hl)) (k p l e s m args below meth c b X D cA hF H locs lsr hN)
theorem a_lload {i : Nat} {x : Int64} (j : Nat) (hd : decode Y.2.1 pc = .ok (.lload i, 2)) (hl : lv[j]? = some (i, .long x)) (k : AW S d Y n0 nf Q (pc + 2) lv (.long x :: st) I J R n) : AW S d Y n0 nf Q pc lv st I J R n :=
  fun p l e s m args below meth c b X D cA hF H locs lsr hN => lv_lload hF.1 hF.2.1 hd (lv_at hN.2.2.1 j (m_lvc_get hl)) (k p l e s m args below meth c b X D cA hF H locs lsr hN)
theorem a_lload_n {q : Fin 4} {i : Nat} {x : Int64} (j : Nat) (hd : decode Y.2.1 pc = .ok (.lload_n q, 1)) (hq : (q : Nat) = i) (hl : lv[j]? = some (i, .long x)) (k : AW S d Y n0 nf Q (pc + 1) lv (.long x :: st) I J R n) : AW S d Y n0 nf Q pc lv st I J R n :=
  fun p l e s m args below meth c b X D cA hF H locs lsr hN => lv_lload_n hF.1 hF.2.1 hd hq (lv_at hN.2.2.1 j (m_lvc_get hl)) (k p l e s m args below meth c b X D cA hF H locs lsr hN)
theorem a_aload {i : Nat} {x : Nat} (j : Nat) (hd : decode Y.2.1 pc = .ok (.aload i, 2)) (hl : lv[j]? = some (i, .ref x)) (k : AW S d Y n0 nf Q (pc + 2) lv (.ref x :: st) I J R n) : AW S d Y n0 nf Q pc lv st I J R n :=
  fun p l e s m args below meth c b X D cA hF H locs lsr hN => lv_aload hF.1 hF.2.1 hd (lv_at hN.2.2.1 j (m_lvc_get hl)) (k p l e s m args below meth c b X D cA hF H locs lsr hN)
theorem a_aload_n {q : Fin 4} {i : Nat} {x : Nat} (j : Nat) (hd : decode Y.2.1 pc = .ok (.aload_n q, 1)) (hq : (q : Nat) = i) (hl : lv[j]? = some (i, .ref x)) (k : AW S d Y n0 nf Q (pc + 1) lv (.ref x :: st) I J R n) : AW S d Y n0 nf Q pc lv st I J R n :=
  fun p l e s m args below meth c b X D cA hF H locs lsr hN => lv_aload_n hF.1 hF.2.1 hd hq (lv_at hN.2.2.1 j (m_lvc_get hl)) (k p l e s m args below meth c b X D cA hF H locs lsr hN)
theorem a_aloadN {i : Nat} (j : Nat) (hd : decode Y.2.1 pc = .ok (.aload i, 2)) (hl : lv[j]? = some (i, .null)) (k : AW S d Y n0 nf Q (pc + 2) lv (.null :: st) I J R n) : AW S d Y n0 nf Q pc lv st I J R n :=
  fun p l e s m args below meth c b X D cA hF H locs lsr hN => lv_aloadN hF.1 hF.2.1 hd (lv_at hN.2.2.1 j (m_lvc_get hl)) (k p l e s m args below meth c b X D cA hF H locs lsr hN)
theorem a_aload_nN {q : Fin 4} {i : Nat} (j : Nat) (hd : decode Y.2.1 pc = .ok (.aload_n q, 1)) (hq : (q : Nat) = i) (hl : lv[j]? = some (i, .null)) (k : AW S d Y n0 nf Q (pc + 1) lv (.null :: st) I J R n) : AW S d Y n0 nf Q pc lv st I J R n :=
  fun p l e s m args below meth c b X D cA hF H locs lsr hN => lv_aload_nN hF.1 hF.2.1 hd hq (lv_at hN.2.2.1 j (m_lvc_get hl)) (k p l e s m args below meth c b X D cA hF H locs lsr hN)
theorem a_istore {i : Nat} {x : Int32} (hd : decode Y.2.1 pc = .ok (.istore i, 2)) (hn : i < Y.2.2.1) (hl : m_st1 i (.int x) lv = lv') (k : AW S d Y n0 nf Q (pc + 2) lv' st I J R n) : AW S d Y n0 nf Q pc lv (.int x :: st) I J R n :=
  fun p l e s m args below meth c b X D cA hF H locs lsr hN => lv_istore (lv' := m_lvc (m_ad b X) lv') hF.1 hF.2.1 hd hN.2.2.1 hn (by subst hl; exact m_st1_c (v := .int x)) (fun lsr hl2 => k p l e s m args below meth c b X D cA hF H locs lsr ⟨hN.1, hN.2.1, hl2, hN.2.2.2⟩)
theorem a_istore_n {q : Fin 4} {i : Nat} {x : Int32} (hd : decode Y.2.1 pc = .ok (.istore_n q, 1)) (hq : (q : Nat) = i) (hn : i < Y.2.2.1) (hl : m_st1 i (.int x) lv = lv') (k : AW S d Y n0 nf Q (pc + 1) lv' st I J R n) : AW S d Y n0 nf Q pc lv (.int x :: st) I J R n :=
  fun p l e s m args below meth c b X D cA hF H locs lsr hN => lv_istore_n (lv' := m_lvc (m_ad b X) lv') hF.1 hF.2.1 hd hq hN.2.2.1 hn (by subst hl; exact m_st1_c (v := .int x)) (fun lsr hl2 => k p l e s m args below meth c b X D cA hF H locs lsr ⟨hN.1, hN.2.1, hl2, hN.2.2.2⟩)
theorem a_lstore {i : Nat} {x : Int64} (hd : decode Y.2.1 pc = .ok (.lstore i, 2)) (hn : i + 1 < Y.2.2.1) (hl : m_st2 i (.long x) lv = lv') (k : AW S d Y n0 nf Q (pc + 2) lv' st I J R n) : AW S d Y n0 nf Q pc lv (.long x :: st) I J R n :=
  fun p l e s m args below meth c b X D cA hF H locs lsr hN => lv_lstore (lv' := m_lvc (m_ad b X) lv') hF.1 hF.2.1 hd hN.2.2.1 hn (by subst hl; exact m_st2_c (v := .long x)) (fun lsr hl2 => k p l e s m args below meth c b X D cA hF H locs lsr ⟨hN.1, hN.2.1, hl2, hN.2.2.2⟩)
theorem a_lstore_n {q : Fin 4} {i : Nat} {x : Int64} (hd : decode Y.2.1 pc = .ok (.lstore_n q, 1)) (hq : (q : Nat) = i) (hn : i + 1 < Y.2.2.1) (hl : m_st2 i (.long x) lv = lv') (k : AW S d Y n0 nf Q (pc + 1) lv' st I J R n) : AW S d Y n0 nf Q pc lv (.long x :: st) I J R n :=
  fun p l e s m args below meth c b X D cA hF H locs lsr hN => lv_lstore_n (lv' := m_lvc (m_ad b X) lv') hF.1 hF.2.1 hd hq hN.2.2.1 hn (by subst hl; exact m_st2_c (v := .long x)) (fun lsr hl2 => k p l e s m args below meth c b X D cA hF H locs lsr ⟨hN.1, hN.2.1, hl2, hN.2.2.2⟩)
theorem a_astore {i : Nat} {x : Nat} (hd : decode Y.2.1 pc = .ok (.astore i, 2)) (hn : i < Y.2.2.1) (hl : m_st1 i (.ref x) lv = lv') (k : AW S d Y n0 nf Q (pc + 2) lv' st I J R n) : AW S d Y n0 nf Q pc lv (.ref x :: st) I J R n :=
  fun p l e s m args below meth c b X D cA hF H locs lsr hN => lv_astore (lv' := m_lvc (m_ad b X) lv') hF.1 hF.2.1 hd hN.2.2.1 hn (by subst hl; exact m_st1_c (v := .ref x)) (fun lsr hl2 => k p l e s m args below meth c b X D cA hF H locs lsr ⟨hN.1, hN.2.1, hl2, hN.2.2.2⟩)
theorem a_astore_n {q : Fin 4} {i : Nat} {x : Nat} (hd : decode Y.2.1 pc = .ok (.astore_n q, 1)) (hq : (q : Nat) = i) (hn : i < Y.2.2.1) (hl : m_st1 i (.ref x) lv = lv') (k : AW S d Y n0 nf Q (pc + 1) lv' st I J R n) : AW S d Y n0 nf Q pc lv (.ref x :: st) I J R n :=
  fun p l e s m args below meth c b X D cA hF H locs lsr hN => lv_astore_n (lv' := m_lvc (m_ad b X) lv') hF.1 hF.2.1 hd hq hN.2.2.1 hn (by subst hl; exact m_st1_c (v := .ref x)) (fun lsr hl2 => k p l e s m args below meth c b X D cA hF H locs lsr ⟨hN.1, hN.2.1, hl2, hN.2.2.2⟩)
theorem a_astoreN {i : Nat} (hd : decode Y.2.1 pc = .ok (.astore i, 2)) (hn : i < Y.2.2.1) (hl : m_st1 i (.null) lv = lv') (k : AW S d Y n0 nf Q (pc + 2) lv' st I J R n) : AW S d Y n0 nf Q pc lv (.null :: st) I J R n :=
  fun p l e s m args below meth c b X D cA hF H locs lsr hN => lv_astoreN (lv' := m_lvc (m_ad b X) lv') hF.1 hF.2.1 hd hN.2.2.1 hn (by subst hl; exact m_st1_c (v := .null)) (fun lsr hl2 => k p l e s m args below meth c b X D cA hF H locs lsr ⟨hN.1, hN.2.1, hl2, hN.2.2.2⟩)
theorem a_astore_nN {q : Fin 4} {i : Nat} (hd : decode Y.2.1 pc = .ok (.astore_n q, 1)) (hq : (q : Nat) = i) (hn : i < Y.2.2.1) (hl : m_st1 i (.null) lv = lv') (k : AW S d Y n0 nf Q (pc + 1) lv' st I J R n) : AW S d Y n0 nf Q pc lv (.null :: st) I J R n :=
  fun p l e s m args below meth c b X D cA hF H locs lsr hN => lv_astore_nN (lv' := m_lvc (m_ad b X) lv') hF.1 hF.2.1 hd hq hN.2.2.1 hn (by subst hl; exact m_st1_c (v := .null)) (fun lsr hl2 => k p l e s m args below meth c b X D cA hF H locs lsr ⟨hN.1, hN.2.1, hl2, hN.2.2.2⟩)
theorem a_iinc {i : Nat} {z : Int} {x v : Int32} (j : Nat) (hd : decode Y.2.1 pc = .ok (.iinc i z, 3)) (hk : lv[j]? = some (i, .int x)) (hv : x + Int32.ofInt z = v) (hn : i < Y.2.2.1) (hl : m_st1 i (.int v) lv = lv') (k : AW S d Y n0 nf Q (pc + 3) lv' st I J R n) : AW S d Y n0 nf Q pc lv st I J R n :=
  fun p l e s m args below meth c b X D cA hF H locs lsr hN => lv_iinc (lv' := m_lvc (m_ad b X) lv') hF.1 hF.2.1 hd hN.2.2.1 (m_lvc_get hk) hv hn (by subst hl; exact m_st1_c (v := .int v)) (fun lsr hl2 => k p l e s m args below meth c b X D cA hF H locs lsr ⟨hN.1, hN.2.1, hl2, hN.2.2.2⟩)
theorem a_if_eq {x : Int32} {off : Int} {tgt : Nat} (hd : decode Y.2.1 pc = .ok (.ifCond .eq off, 3)) (ht : (pc : Int) + off = (tgt : Int)) (k1 : x = 0 → AW S d Y n0 nf Q tgt lv st I J R n) (k2 : ¬ x = 0 → AW S d Y n0 nf Q (pc + 3) lv st I J R n) : AW S d Y n0 nf Q pc lv (.int x :: st) I J R n :=
  fun p l e s m args below meth c b X D cA hF H locs lsr hN => lv_if_eq hF.1 hF.2.1 hd ht (fun h => k1 h p l e s m args below meth c b X D cA hF H locs lsr hN) (fun h => k2 h p l e s m args below meth c b X D cA hF H locs lsr hN)
theorem a_icmp_eq {x y : Int32} {off : Int} {tgt : Nat} (hd : decode Y.2.1 pc = .ok (.if_icmp .eq off, 3)) (ht : (pc : Int) + off = (tgt : Int)) (k1 : x = y → AW S d Y n0 nf Q tgt lv st I J R n) (k2 : ¬ x = y → AW S d Y n0 nf Q (pc + 3) lv st I J R n) : AW S d Y n0 nf Q pc lv (.int y :: .int x :: st) I J R n :=
  fun p l e s m args below meth c b X D cA hF H locs lsr hN => lv_icmp_eq hF.1 hF.2.1 hd ht (fun h => k1 h p l e s m args below meth c b X D cA hF H locs lsr hN) (fun h => k2 h p l e s m args below meth c b X D cA hF H locs lsr hN)
theorem a_if_ne {x : Int32} {off : Int} {tgt : Nat} (hd : decode Y.2.1 pc = .ok (.ifCond .ne off, 3)) (ht : (pc : Int) + off = (tgt : Int)) (k1 : ¬ x = 0 → AW S d Y n0 nf Q tgt lv st I J R n) (k2 : x = 0 → AW S d Y n0 nf Q (pc + 3) lv st I J R n) : AW S d Y n0 nf Q pc lv (.int x :: st) I J R n :=
  fun p l e s m args below meth c b X D cA hF H locs lsr hN => lv_if_ne hF.1 hF.2.1 hd ht (fun h => k1 h p l e s m args below meth c b X D cA hF H locs lsr hN) (fun h => k2 h p l e s m args below meth c b X D cA hF H locs lsr hN)
theorem a_icmp_ne {x y : Int32} {off : Int} {tgt : Nat} (hd : decode Y.2.1 pc = .ok (.if_icmp .ne off, 3)) (ht : (pc : Int) + off = (tgt : Int)) (k1 : ¬ x = y → AW S d Y n0 nf Q tgt lv st I J R n) (k2 : x = y → AW S d Y n0 nf Q (pc + 3) lv st I J R n) : AW S d Y n0 nf Q pc lv (.int y :: .int x :: st) I J R n :=
  fun p l e s m args below meth c b X D cA hF H locs lsr hN => lv_icmp_ne hF.1 hF.2.1 hd ht (fun h => k1 h p l e s m args below meth c b X D cA hF H locs lsr hN) (fun h => k2 h p l e s m args below meth c b X D cA hF H locs lsr hN)
theorem a_if_lt {x : Int32} {off : Int} {tgt : Nat} (hd : decode Y.2.1 pc = .ok (.ifCond .lt off, 3)) (ht : (pc : Int) + off = (tgt : Int)) (k1 : x < 0 → AW S d Y n0 nf Q tgt lv st I J R n) (k2 : ¬ x < 0 → AW S d Y n0 nf Q (pc + 3) lv st I J R n) : AW S d Y n0 nf Q pc lv (.int x :: st) I J R n :=
  fun p l e s m args below meth c b X D cA hF H locs lsr hN => lv_if_lt hF.1 hF.2.1 hd ht (fun h => k1 h p l e s m args below meth c b X D cA hF H locs lsr hN) (fun h => k2 h p l e s m args below meth c b X D cA hF H locs lsr hN)
theorem a_icmp_lt {x y : Int32} {off : Int} {tgt : Nat} (hd : decode Y.2.1 pc = .ok (.if_icmp .lt off, 3)) (ht : (pc : Int) + off = (tgt : Int)) (k1 : x < y → AW S d Y n0 nf Q tgt lv st I J R n) (k2 : ¬ x < y → AW S d Y n0 nf Q (pc + 3) lv st I J R n) : AW S d Y n0 nf Q pc lv (.int y :: .int x :: st) I J R n :=
  fun p l e s m args below meth c b X D cA hF H locs lsr hN => lv_icmp_lt hF.1 hF.2.1 hd ht (fun h => k1 h p l e s m args below meth c b X D cA hF H locs lsr hN) (fun h => k2 h p l e s m args below meth c b X D cA hF H locs lsr hN)
theorem a_if_ge {x : Int32} {off : Int} {tgt : Nat} (hd : decode Y.2.1 pc = .ok (.ifCond .ge off, 3)) (ht : (pc : Int) + off = (tgt : Int)) (k1 : 0 ≤ x → AW S d Y n0 nf Q tgt lv st I J R n) (k2 : ¬ 0 ≤ x → AW S d Y n0 nf Q (pc + 3) lv st I J R n) : AW S d Y n0 nf Q pc lv (.int x :: st) I J R n :=
  fun p l e s m args below meth c b X D cA hF H locs lsr hN => lv_if_ge hF.1 hF.2.1 hd ht (fun h => k1 h p l e s m args below meth c b X D cA hF H locs lsr hN) (fun h => k2 h p l e s m args below meth c b X D cA hF H locs lsr hN)
theorem a_icmp_ge {x y : Int32} {off : Int} {tgt : Nat} (hd : decode Y.2.1 pc = .ok (.if_icmp .ge off, 3)) (ht : (pc : Int) + off = (tgt : Int)) (k1 : y ≤ x → AW S d Y n0 nf Q tgt lv st I J R n) (k2 : ¬ y ≤ x → AW S d Y n0 nf Q (pc + 3) lv st I J R n) : AW S d Y n0 nf Q pc lv (.int y :: .int x :: st) I J R n :=
  fun p l e s m args below meth c b X D cA hF H locs lsr hN => lv_icmp_ge hF.1 hF.2.1 hd ht (fun h => k1 h p l e s m args below meth c b X D cA hF H locs lsr hN) (fun h => k2 h p l e s m args below meth c b X D cA hF H locs lsr hN)
theorem a_if_gt {x : Int32} {off : Int} {tgt : Nat} (hd : decode Y.2.1 pc = .ok (.ifCond .gt off, 3)) (ht : (pc : Int) + off = (tgt : Int)) (k1 : 0 < x → AW S d Y n0 nf Q tgt lv st I J R n) (k2 : ¬ 0 < x → AW S d Y n0 nf Q (pc + 3) lv st I J R n) : AW S d Y n0 nf Q pc lv (.int x :: st) I J R n :=
  fun p l e s m args below meth c b X D cA hF H locs lsr hN => lv_if_gt hF.1 hF.2.1 hd ht (fun h => k1 h p l e s m args below meth c b X D cA hF H locs lsr hN) (fun h => k2 h p l e s m args below meth c b X D cA hF H locs lsr hN)
theorem a_icmp_gt {x y : Int32} {off : Int} {tgt : Nat} (hd : decode Y.2.1 pc = .ok (.if_icmp .gt off, 3)) (ht : (pc : Int) + off = (tgt : Int)) (k1 : y < x → AW S d Y n0 nf Q tgt lv st I J R n) (k2 : ¬ y < x → AW S d Y n0 nf Q (pc + 3) lv st I J R n) : AW S d Y n0 nf Q pc lv (.int y :: .int x :: st) I J R n :=
  fun p l e s m args below meth c b X D cA hF H locs lsr hN => lv_icmp_gt hF.1 hF.2.1 hd ht (fun h => k1 h p l e s m args below meth c b X D cA hF H locs lsr hN) (fun h => k2 h p l e s m args below meth c b X D cA hF H locs lsr hN)
theorem a_if_le {x : Int32} {off : Int} {tgt : Nat} (hd : decode Y.2.1 pc = .ok (.ifCond .le off, 3)) (ht : (pc : Int) + off = (tgt : Int)) (k1 : x ≤ 0 → AW S d Y n0 nf Q tgt lv st I J R n) (k2 : ¬ x ≤ 0 → AW S d Y n0 nf Q (pc + 3) lv st I J R n) : AW S d Y n0 nf Q pc lv (.int x :: st) I J R n :=
  fun p l e s m args below meth c b X D cA hF H locs lsr hN => lv_if_le hF.1 hF.2.1 hd ht (fun h => k1 h p l e s m args below meth c b X D cA hF H locs lsr hN) (fun h => k2 h p l e s m args below meth c b X D cA hF H locs lsr hN)
theorem a_icmp_le {x y : Int32} {off : Int} {tgt : Nat} (hd : decode Y.2.1 pc = .ok (.if_icmp .le off, 3)) (ht : (pc : Int) + off = (tgt : Int)) (k1 : x ≤ y → AW S d Y n0 nf Q tgt lv st I J R n) (k2 : ¬ x ≤ y → AW S d Y n0 nf Q (pc + 3) lv st I J R n) : AW S d Y n0 nf Q pc lv (.int y :: .int x :: st) I J R n :=
  fun p l e s m args below meth c b X D cA hF H locs lsr hN => lv_icmp_le hF.1 hF.2.1 hd ht (fun h => k1 h p l e s m args below meth c b X D cA hF H locs lsr hN) (fun h => k2 h p l e s m args below meth c b X D cA hF H locs lsr hN)
theorem a_goto {off : Int} {tgt : Nat} (hd : decode Y.2.1 pc = .ok (.goto off, 3)) (ht : (pc : Int) + off = (tgt : Int)) (k : AW S d Y n0 nf Q tgt lv st I J R n) : AW S d Y n0 nf Q pc lv st I J R n :=
  fun p l e s m args below meth c b X D cA hF H locs lsr hN => lv_goto hF.1 hF.2.1 hd ht (k p l e s m args below meth c b X D cA hF H locs lsr hN)
theorem a_ifnull {x : Nat} {off : Int} (hd : decode Y.2.1 pc = .ok (.ifnull off, 3)) (k : AW S d Y n0 nf Q (pc + 3) lv st I J R n) : AW S d Y n0 nf Q pc lv (.ref x :: st) I J R n :=
  fun p l e s m args below meth c b X D cA hF H locs lsr hN => lv_ifnull hF.1 hF.2.1 hd (k p l e s m args below meth c b X D cA hF H locs lsr hN)
theorem a_ifnullN {off : Int} {tgt : Nat} (hd : decode Y.2.1 pc = .ok (.ifnull off, 3)) (ht : (pc : Int) + off = (tgt : Int)) (k : AW S d Y n0 nf Q tgt lv st I J R n) : AW S d Y n0 nf Q pc lv (.null :: st) I J R n :=
  fun p l e s m args below meth c b X D cA hF H locs lsr hN => lv_ifnullN hF.1 hF.2.1 hd ht (k p l e s m args below meth c b X D cA hF H locs lsr hN)
theorem a_ifnonnull {x : Nat} {off : Int} {tgt : Nat} (hd : decode Y.2.1 pc = .ok (.ifnonnull off, 3)) (ht : (pc : Int) + off = (tgt : Int)) (k : AW S d Y n0 nf Q tgt lv st I J R n) : AW S d Y n0 nf Q pc lv (.ref x :: st) I J R n :=
  fun p l e s m args below meth c b X D cA hF H locs lsr hN => lv_ifnonnull hF.1 hF.2.1 hd ht (k p l e s m args below meth c b X D cA hF H locs lsr hN)
theorem a_ifnonnullN {off : Int} (hd : decode Y.2.1 pc = .ok (.ifnonnull off, 3)) (k : AW S d Y n0 nf Q (pc + 3) lv st I J R n) : AW S d Y n0 nf Q pc lv (.null :: st) I J R n :=
  fun p l e s m args below meth c b X D cA hF H locs lsr hN => lv_ifnonnullN hF.1 hF.2.1 hd (k p l e s m args below meth c b X D cA hF H locs lsr hN)
theorem a_tableIn {dflt lo hi : Int} {offs : Array Int} {len : Nat} {x : Int32} {off : Int} {tgt : Nat} (hd : decode Y.2.1 pc = .ok (.tableswitch dflt lo hi offs, len)) (h1 : ¬ x.toInt < lo) (h2 : ¬ hi < x.toInt) (ho : offs[(x.toInt - lo).toNat]? = some off) (ht : (pc : Int) + off = (tgt : Int)) (k : AW S d Y n0 nf Q tgt lv st I J R n) : AW S d Y n0 nf Q pc lv (.int x :: st) I J R n :=
  fun p l e s m args below meth c b X D cA hF H locs lsr hN => lv_tableIn hF.1 hF.2.1 hd h1 h2 ho ht (k p l e s m args below meth c b X D cA hF H locs lsr hN)
theorem a_tableOut {dflt lo hi : Int} {offs : Array Int} {len : Nat} {x : Int32} {tgt : Nat} (hd : decode Y.2.1 pc = .ok (.tableswitch dflt lo hi offs, len)) (h : x.toInt < lo ∨ hi < x.toInt) (ht : (pc : Int) + dflt = (tgt : Int)) (k : AW S d Y n0 nf Q tgt lv st I J R n) : AW S d Y n0 nf Q pc lv (.int x :: st) I J R n :=
  fun p l e s m args below meth c b X D cA hF H locs lsr hN => lv_tableOut hF.1 hF.2.1 hd h ht (k p l e s m args below meth c b X D cA hF H locs lsr hN)
end MR
