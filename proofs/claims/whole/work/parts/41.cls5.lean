theorem and1 (a : Int32) : a &&& 1 = 0 ∨ a &&& 1 = 1 := by
  have h : (a &&& 1).toBitVec = a.toBitVec &&& 1#32 := rfl
  rw [BitVec.and_one_eq_setWidth_ofBool_getLsbD] at h
  cases e : a.toBitVec.getLsbD 0
  · left
    apply Int32.toBitVec_inj.mp
    rw [h, e]
    rfl
  · right
    apply Int32.toBitVec_inj.mp
    rw [h, e]
    rfl
theorem has_z {s k : Int32} : f_has s k = 0 ↔ ((s >>> (k &&& 31)) &&& nI 1) = 0 := by
  unfold f_has
  show (if ((s >>> (k &&& 31)) &&& 1) = 1 then (1 : Int32) else 0) = 0 ↔ ((s >>> (k &&& 31)) &&& 1) = 0
  rcases and1 (s >>> (k &&& 31)) with h | h <;> rw [h] <;> simp
theorem l_passNight {S : Nat × (Nat → Int32)} {d n : Nat} {I : mI} {J : mJ} {R : mR} {md ls cm : Nat → Int32} {ni le sl dn fa id0 gr lo : Int32}  (hn : 122 ≤ n) (hR : m_fin R) {o nh nl : Nat} (ho : o ∈ m_offs) (hr : offR R o) (hon : o + 8 < n) (hRo : R 60 0 = some o) (hh : I o 0 = nI nh) (hnh : nh ≤ 6) (hl : I o 1 = nI nl) (hnl : nl ≤ 10)  {Q : Option Value → mI → mJ → mR → Prop} (hQ : Q none (cr60 I (m_fill (fun j => ntC (md j)) md nh) (m_fill (fun _ => -1) ls nh) cm (ni + 1) le sl dn fa id0 gr lo) J R) : ∀ m k, k + m = nh → AW S (d + 1) YCourse_passNight n n Q 12 [(1, .int (nI k)), (0, .ref 60)] [] (cr60 I (m_fill (fun j => ntC (md j)) md k) (m_fill (fun _ => -1) ls k) cm (ni + 1) le sl dn fa id0 gr lo) J R n := by
  intro m
  induction m with
  | zero =>
    intro k hk9
    rw [show k = nh by omega]
    refine a_iload_n 0 dCourse_passNight_12 rfl rfl ?_
    refine a_aload_n 1 dCourse_passNight_13 rfl rfl ?_
    refine a_geta (r := o) dCourse_passNight_14 fl2_21 rfl ly_60 (by omega) hRo ?_
    refine a_geti dCourse_passNight_17 fl2_108 rfl (of_l0 ho) (by omega) ?_
    rw [show (cr60 I (m_fill (fun j => ntC (md j)) md nh) (m_fill (fun _ => -1) ls nh) cm (ni + 1) le sl dn fa id0 gr lo) o 0 = (nI nh) from (by rw [cr60_off0 ho]; exact hh)]
    refine a_icmp_geN (tgt := 56) dCourse_passNight_20 (by decide) (by omega) (by omega) (fun _ => ?_) (fun c => False.elim (by omega))
    exact a_vret dCourse_passNight_56 rfl hQ
  | succ m ih =>
    intro k hk9
    refine a_iload_n 0 dCourse_passNight_12 rfl rfl ?_
    refine a_aload_n 1 dCourse_passNight_13 rfl rfl ?_
    refine a_geta (r := o) dCourse_passNight_14 fl2_21 rfl ly_60 (by omega) hRo ?_
    refine a_geti dCourse_passNight_17 fl2_108 rfl (of_l0 ho) (by omega) ?_
    rw [show (cr60 I (m_fill (fun j => ntC (md j)) md k) (m_fill (fun _ => -1) ls k) cm (ni + 1) le sl dn fa id0 gr lo) o 0 = (nI nh) from (by rw [cr60_off0 ho]; exact hh)]
    refine a_icmp_geN (tgt := 56) dCourse_passNight_20 (by decide) (by omega) (by omega) (fun c => False.elim (by omega)) (fun _ => ?_)
    refine a_aload_n 1 dCourse_passNight_23 rfl rfl ?_
    refine a_geta (r := 61) dCourse_passNight_24 fl2_9 rfl ly_60 (by omega) (rf_60_6 hR) ?_
    refine a_iload_n 0 dCourse_passNight_27 rfl rfl ?_
    refine a_dup2 dCourse_passNight_28 rfl rfl ?_
    refine a_ialdN (a := k) dCourse_passNight_29 ly_61 (by omega) (by omega) (by decide) ?_
    rw [show (cr60 I (m_fill (fun j => ntC (md j)) md k) (m_fill (fun _ => -1) ls k) cm (ni + 1) le sl dn fa id0 gr lo) 61 k = md k from (by rw [cr60_1]; unfold m_fill; rw [if_neg (Nat.lt_irrefl _)])]
    refine a_aload_n 1 dCourse_passNight_30 rfl rfl ?_
    refine a_geta (r := 61) dCourse_passNight_31 fl2_9 rfl ly_60 (by omega) (rf_60_6 hR) ?_
    refine a_iload_n 0 dCourse_passNight_34 rfl rfl ?_
    refine a_ialdN (a := k) dCourse_passNight_35 ly_61 (by omega) (by omega) (by decide) ?_
    rw [show (cr60 I (m_fill (fun j => ntC (md j)) md k) (m_fill (fun _ => -1) ls k) cm (ni + 1) le sl dn fa id0 gr lo) 61 k = md k from (by rw [cr60_1]; unfold m_fill; rw [if_neg (Nat.lt_irrefl _)])]
    refine a_bipushN (a := 10) dCourse_passNight_36 (by decide) ?_
    refine a_callS (Q' := m_res (some (.int (cmpF (md k) (nI 10)))) (cr60 I (m_fill (fun j => ntC (md j)) md k) (m_fill (fun _ => -1) ls k) cm (ni + 1) le sl dn fa id0 gr lo) J R) (as := [.int (md k), .int (nI 10)]) (st := [.int (md k), .int (nI k), .ref 61]) dCourse_passNight_38 ml2_128 rfl (Nat.le_of_ble_eq_true rfl) (Nat.le_of_ble_eq_true rfl) rfl (Nat.le_refl _) (Nat.le_refl _) c_Integer_compare (m_go ?_)
    show AW _ _ _ _ _ _ _ _ [.int (cmpF (md k) (nI 10)), .int (md k), .int (nI k), .ref 61] _ _ _ _
    refine a_isub dCourse_passNight_41 ?_
    refine a_iastN (a := k) dCourse_passNight_42 ly_61 (by omega) (by omega) (by decide) ?_
    rw [cr60_md]
    refine a_aload_n 1 dCourse_passNight_43 rfl rfl ?_
    refine a_geta (r := 62) dCourse_passNight_44 fl2_15 rfl ly_60 (by omega) (rf_60_7 hR) ?_
    refine a_iload_n 0 dCourse_passNight_47 rfl rfl ?_
    refine a_iconst (v := -1) dCourse_passNight_48 (by decide) ?_
    refine a_iastN (a := k) dCourse_passNight_49 ly_62 (by omega) (by omega) (by decide) ?_
    rw [cr60_ls]
    refine a_iincN (lv' := [(1, .int (nI (k + 1))), (0, .ref 60)]) (j := 0) dCourse_passNight_50 rfl (by decide) rfl ?_
    refine a_goto (tgt := 12) dCourse_passNight_53 (by decide) ?_
    refine a_locs (lv' := [(1, .int (nI (k + 1))), (0, .ref 60)]) [0, 1] rfl ?_
    have hh := ih (k + 1) (by omega)
    rw [← va_fill (k := k) (f := fun j => ntC (md j)) (x := md k - cmpF (md k) (nI 10)) rfl, ← va_fill (k := k) (f := fun _ => (-1 : Int32)) (x := -1) rfl] at hh
    exact hh
theorem c_passNight {S : Nat × (Nat → Int32)} {d n : Nat} {I : mI} {J : mJ} {R : mR} {md ls cm : Nat → Int32} {ni le sl dn fa id0 gr lo : Int32}  (hn : 122 ≤ n) (hR : m_fin R) {o nh nl : Nat} (ho : o ∈ m_offs) (hr : offR R o) (hon : o + 8 < n) (hRo : R 60 0 = some o) (hh : I o 0 = nI nh) (hnh : nh ≤ 6) (hl : I o 1 = nI nl) (hnl : nl ≤ 10)  : RUN S (d + 1) YCourse_passNight [.ref 60] (cr60 I md ls cm ni le sl dn fa id0 gr lo) J R n none (cr60 I (m_fill (fun j => ntC (md j)) md nh) (m_fill (fun _ => -1) ls nh) cm (ni + 1) le sl dn fa id0 gr lo) J R n := by
  show AW S _ YCourse_passNight n n _ 0 [(0, .ref 60)] [] (cr60 I md ls cm ni le sl dn fa id0 gr lo) J R n
  refine a_aload_n 0 dCourse_passNight_0 rfl rfl ?_
  refine a_dup dCourse_passNight_1 rfl ?_
  refine a_geti dCourse_passNight_2 fl2_34 rfl ly_60 (by omega) ?_
  rw [show (cr60 I md ls cm ni le sl dn fa id0 gr lo) 60 3 = ni from rfl]
  refine a_iconstN (a := 1) dCourse_passNight_5 (by decide) ?_
  refine a_iadd dCourse_passNight_6 ?_
  refine a_puti dCourse_passNight_7 fl2_34 rfl ly_60 (by omega) ?_
  rw [cr60_f3]
  refine a_iconstN (a := 0) dCourse_passNight_10 (by decide) ?_
  refine a_istore_n (lv' := [(1, .int (nI 0)), (0, .ref 60)]) dCourse_passNight_11 rfl (by decide) rfl ?_
  have hh := l_passNight (S := S) (d := d) (J := J) (md := md) (ls := ls) (cm := cm) (ni := ni) (le := le) (sl := sl) (dn := dn) (fa := fa) (id0 := id0) (gr := gr) (lo := lo) hn hR ho hr hon hRo hh hnh hl hnl (Q := m_res none (cr60 I (m_fill (fun j => ntC (md j)) md nh) (m_fill (fun _ => -1) ls nh) cm (ni + 1) le sl dn fa id0 gr lo) J R) ⟨rfl, rfl, rfl, rfl⟩ nh 0 (by omega)
  rw [m_fill_0, m_fill_0] at hh
  exact hh
/-- the class's course in its memory -/
abbrev ccT (I : mI) (s : cS) (p : Int32 × Int32) : mI := cr60 I s.1 s.2.1 s.2.2.1 s.2.2.2.1 s.2.2.2.2.1 s.2.2.2.2.2.1 s.2.2.2.2.2.2.1 s.2.2.2.2.2.2.2.1 s.2.2.2.2.2.2.2.2 p.2 p.1
theorem c_mayDo3 {S : Nat × (Nat → Int32)} {d n : Nat} {I : mI} {J : mJ} {R : mR} {md ls cm : Nat → Int32} {ni le sl dn fa id0 gr lo : Int32}  (hn : 122 ≤ n) (hR : m_fin R) {o nh nl : Nat} (ho : o ∈ m_offs) (hr : offR R o) (hon : o + 8 < n) (hRo : R 60 0 = some o) (hh : I o 0 = nI nh) (hnh : nh ≤ 6) (hl : I o 1 = nI nl) (hnl : nl ≤ 10) {x y : Int32}  : RUN S (d + 2) YCourse_mayDo [.ref 60, .int (nI 3), .int x, .int y] (cr60 I md ls cm ni le sl dn fa id0 gr lo) J R n (some (.int 1)) (cr60 I (m_fill (fun j => ntC (md j)) md nh) (m_fill (fun _ => -1) ls nh) cm (ni + 1) le sl dn fa id0 (lwN (m_fill (fun j => ntC (md j)) md nh) (lo, gr) nh).2 (lwN (m_fill (fun j => ntC (md j)) md nh) (lo, gr) nh).1) J R n := by
  show AW S _ YCourse_mayDo n n _ 0 [(0, .ref 60), (1, .int (nI 3)), (2, .int x), (3, .int y)] [] (cr60 I md ls cm ni le sl dn fa id0 gr lo) J R n
  refine a_iload_n 1 dCourse_mayDo_0 rfl rfl ?_
  refine a_iconstN (a := 3) dCourse_mayDo_1 (by decide) ?_
  refine a_icmp_neN (tgt := 15) dCourse_mayDo_2 (by decide) (by omega) (by omega) (fun c => False.elim (c rfl)) (fun _ => ?_)
  refine a_aload_n 0 dCourse_mayDo_5 rfl rfl ?_
  refine a_callV (Q' := m_res none (cr60 I (m_fill (fun j => ntC (md j)) md nh) (m_fill (fun _ => -1) ls nh) cm (ni + 1) le sl dn fa id0 gr lo) J R) (as := []) (st := []) dCourse_mayDo_6 ml2_111 rfl (Nat.le_of_ble_eq_true rfl) ly_60 rfl rfl (by decide) (by omega) (Nat.le_of_ble_eq_true rfl) rfl (Nat.le_refl _) (Nat.le_refl _) (c_passNight hn hR ho hr hon hRo hh hnh hl hnl) (m_go ?_)
  show AW _ _ _ _ _ _ _ _ [] _ _ _ _
  refine a_aload_n 0 dCourse_mayDo_9 rfl rfl ?_
  refine a_callV (Q' := m_res none (cr60 I (m_fill (fun j => ntC (md j)) md nh) (m_fill (fun _ => -1) ls nh) cm (ni + 1) le sl dn fa id0 ((lwN (m_fill (fun j => ntC (md j)) md nh) (lo, gr) nh).2) ((lwN (m_fill (fun j => ntC (md j)) md nh) (lo, gr) nh).1)) J R) (as := []) (st := []) dCourse_mayDo_10 ml2_68 rfl (Nat.le_of_ble_eq_true rfl) ly_60 rfl rfl (by decide) (by omega) (Nat.le_of_ble_eq_true rfl) rfl (Nat.le_refl _) (Nat.le_refl _) (c_noteLow hn hR ho hr hon hRo hh hnh hl hnl) (m_go ?_)
  show AW _ _ _ _ _ _ _ _ [] _ _ _ _
  refine a_iconstN (a := 1) dCourse_mayDo_13 (by decide) ?_
  exact a_zret dCourse_mayDo_14 rfl (by rfl) ⟨rfl, rfl, rfl, rfl⟩
theorem c_mayDoN {S : Nat × (Nat → Int32)} {d n : Nat} {I : mI} {J : mJ} {R : mR} {md ls cm : Nat → Int32} {ni le sl dn fa id0 gr lo : Int32}  (hn : 122 ≤ n) (hR : m_fin R) {o nh nl : Nat} (ho : o ∈ m_offs) (hr : offR R o) (hon : o + 8 < n) (hRo : R 60 0 = some o) (hh : I o 0 = nI nh) (hnh : nh ≤ 6) (hl : I o 1 = nI nl) (hnl : nl ≤ 10) {u : Nat} {x y : Int32} (hu : u < 3) (h0 : f_of x (nI nl) = 0 ∨ f_has le x = 0)  : RUN S (d + 2) YCourse_mayDo [.ref 60, .int (nI u), .int x, .int y] (cr60 I md ls cm ni le sl dn fa id0 gr lo) J R n (some (.int 0)) (cr60 I md ls cm ni le sl dn fa id0 gr lo) J R n := by
  show AW S _ YCourse_mayDo n n _ 0 [(0, .ref 60), (1, .int (nI u)), (2, .int x), (3, .int y)] [] (cr60 I md ls cm ni le sl dn fa id0 gr lo) J R n
  refine a_iload_n 1 dCourse_mayDo_0 rfl rfl ?_
  refine a_iconstN (a := 3) dCourse_mayDo_1 (by decide) ?_
  refine a_icmp_neN (tgt := 15) dCourse_mayDo_2 (by decide) (by omega) (by omega) (fun _ => ?_) (fun c => False.elim (by omega))
  refine a_aload_n 0 dCourse_mayDo_15 rfl rfl ?_
  refine a_geta (r := o) dCourse_mayDo_16 fl2_21 rfl ly_60 (by omega) hRo ?_
  refine a_iload_n 2 dCourse_mayDo_19 rfl rfl ?_
  refine a_callV (Q' := m_res (some (.int (f_of x (nI nl)))) (cr60 I md ls cm ni le sl dn fa id0 gr lo) J R) (as := [.int x]) (st := []) dCourse_mayDo_20 ml2_114 rfl (Nat.le_of_ble_eq_true rfl) (of_l0 ho) rfl rfl (by decide) (by omega) (Nat.le_of_ble_eq_true rfl) rfl (Nat.le_refl _) (Nat.le_refl _) (by have h := c_Office_hasLetter (S := S) (d := d + 1) (J := J) (I := (cr60 I md ls cm ni le sl dn fa id0 gr lo)) (h := x) ho hr hon; rw [cr60_off0 ho, hl] at h; exact h) (m_go ?_)
  show AW _ _ _ _ _ _ _ _ [.int (f_of x (nI nl))] _ _ _ _
  refine a_if_eq (tgt := 37) dCourse_mayDo_23 (by decide) (fun c23 => ?_) (fun c23 => ?_)
  · refine a_iconstN (a := 0) dCourse_mayDo_37 (by decide) ?_
    exact a_zret dCourse_mayDo_38 rfl (by rfl) ⟨rfl, rfl, rfl, rfl⟩
  · refine a_aload_n 0 dCourse_mayDo_26 rfl rfl ?_
    refine a_geti dCourse_mayDo_27 fl2_31 rfl ly_60 (by omega) ?_
    rw [show (cr60 I md ls cm ni le sl dn fa id0 gr lo) 60 2 = le from rfl]
    refine a_iload_n 2 dCourse_mayDo_30 rfl rfl ?_
    refine a_ishr dCourse_mayDo_31 ?_
    refine a_iconstN (a := 1) dCourse_mayDo_32 (by decide) ?_
    refine a_iand dCourse_mayDo_33 ?_
    refine a_if_ne (tgt := 39) dCourse_mayDo_34 (by decide) (fun c34 => ?_) (fun c34 => ?_)
    · exfalso
      rcases h0 with h | h
      · exact c23 h
      · exact c34 (has_z.mp h)
    · refine a_iconstN (a := 0) dCourse_mayDo_37 (by decide) ?_
      exact a_zret dCourse_mayDo_38 rfl (by rfl) ⟨rfl, rfl, rfl, rfl⟩
theorem c_mayDo1n {S : Nat × (Nat → Int32)} {d n : Nat} {I : mI} {J : mJ} {R : mR} {md ls cm : Nat → Int32} {ni le sl dn fa id0 gr lo : Int32}  (hn : 122 ≤ n) (hR : m_fin R) {o nh nl : Nat} (ho : o ∈ m_offs) (hr : offR R o) (hon : o + 8 < n) (hRo : R 60 0 = some o) (hh : I o 0 = nI nh) (hnh : nh ≤ 6) (hl : I o 1 = nI nl) (hnl : nl ≤ 10) {l : Nat} (hll : l < nl) (h1 : ¬ f_of (nI l) (nI nl) = 0) (h2 : ¬ f_has le (nI l) = 0) {q : Nat} (hq : q < 6) (hm : I (o + 2) l = nI q) {y : Int32} (h3 : f_of y (nI nh) = 0 ∨ y = nI q)  : RUN S (d + 2) YCourse_mayDo [.ref 60, .int (nI 1), .int (nI l), .int y] (cr60 I md ls cm ni le sl dn fa id0 gr lo) J R n (some (.int 0)) (cr60 I md ls cm ni le sl dn fa id0 gr lo) J R n := by
  show AW S _ YCourse_mayDo n n _ 0 [(0, .ref 60), (1, .int (nI 1)), (2, .int (nI l)), (3, .int y)] [] (cr60 I md ls cm ni le sl dn fa id0 gr lo) J R n
  refine a_iload_n 1 dCourse_mayDo_0 rfl rfl ?_
  refine a_iconstN (a := 3) dCourse_mayDo_1 (by decide) ?_
  refine a_icmp_neN (tgt := 15) dCourse_mayDo_2 (by decide) (by omega) (by omega) (fun _ => ?_) (fun c => False.elim (by omega))
  refine a_aload_n 0 dCourse_mayDo_15 rfl rfl ?_
  refine a_geta (r := o) dCourse_mayDo_16 fl2_21 rfl ly_60 (by omega) hRo ?_
  refine a_iload_n 2 dCourse_mayDo_19 rfl rfl ?_
  refine a_callV (Q' := m_res (some (.int (f_of (nI l) (nI nl)))) (cr60 I md ls cm ni le sl dn fa id0 gr lo) J R) (as := [.int (nI l)]) (st := []) dCourse_mayDo_20 ml2_114 rfl (Nat.le_of_ble_eq_true rfl) (of_l0 ho) rfl rfl (by decide) (by omega) (Nat.le_of_ble_eq_true rfl) rfl (Nat.le_refl _) (Nat.le_refl _) (by have h := c_Office_hasLetter (S := S) (d := d + 1) (J := J) (I := (cr60 I md ls cm ni le sl dn fa id0 gr lo)) (h := (nI l)) ho hr hon; rw [cr60_off0 ho, hl] at h; exact h) (m_go ?_)
  show AW _ _ _ _ _ _ _ _ [.int (f_of (nI l) (nI nl))] _ _ _ _
  refine a_if_eq (tgt := 37) dCourse_mayDo_23 (by decide) (fun c => False.elim (h1 c)) (fun _ => ?_)
  refine a_aload_n 0 dCourse_mayDo_26 rfl rfl ?_
  refine a_geti dCourse_mayDo_27 fl2_31 rfl ly_60 (by omega) ?_
  rw [show (cr60 I md ls cm ni le sl dn fa id0 gr lo) 60 2 = le from rfl]
  refine a_iload_n 2 dCourse_mayDo_30 rfl rfl ?_
  refine a_ishr dCourse_mayDo_31 ?_
  refine a_iconstN (a := 1) dCourse_mayDo_32 (by decide) ?_
  refine a_iand dCourse_mayDo_33 ?_
  refine a_if_ne (tgt := 39) dCourse_mayDo_34 (by decide) (fun _ => ?_) (fun c => False.elim (h2 (has_z.mpr c)))
  refine a_iload_n 1 dCourse_mayDo_39 rfl rfl ?_
  refine a_iconstN (a := 1) dCourse_mayDo_40 (by decide) ?_
  refine a_icmp_neN (tgt := 70) dCourse_mayDo_41 (by decide) (by omega) (by omega) (fun c => False.elim (c rfl)) (fun _ => ?_)
  refine a_aload_n 0 dCourse_mayDo_44 rfl rfl ?_
  refine a_geta (r := o) dCourse_mayDo_45 fl2_21 rfl ly_60 (by omega) hRo ?_
  refine a_iload_n 3 dCourse_mayDo_48 rfl rfl ?_
  refine a_callV (Q' := m_res (some (.int (f_of y (nI nh)))) (cr60 I md ls cm ni le sl dn fa id0 gr lo) J R) (as := [.int y]) (st := []) dCourse_mayDo_49 ml2_118 rfl (Nat.le_of_ble_eq_true rfl) (of_l0 ho) rfl rfl (by decide) (by omega) (Nat.le_of_ble_eq_true rfl) rfl (Nat.le_refl _) (Nat.le_refl _) (by have h := c_Office_hasHouse (S := S) (d := d + 1) (J := J) (I := (cr60 I md ls cm ni le sl dn fa id0 gr lo)) (h := y) ho hr hon; rw [cr60_off0 ho, hh] at h; exact h) (m_go ?_)
  show AW _ _ _ _ _ _ _ _ [.int (f_of y (nI nh))] _ _ _ _
  refine a_if_eq (tgt := 68) dCourse_mayDo_52 (by decide) (fun c52 => ?_) (fun c52 => ?_)
  · refine a_iconstN (a := 0) dCourse_mayDo_68 (by decide) ?_
    exact a_zret dCourse_mayDo_69 rfl (by rfl) ⟨rfl, rfl, rfl, rfl⟩
  · refine a_iload_n 3 dCourse_mayDo_55 rfl rfl ?_
    refine a_aload_n 0 dCourse_mayDo_56 rfl rfl ?_
    refine a_geta (r := o) dCourse_mayDo_57 fl2_21 rfl ly_60 (by omega) hRo ?_
    refine a_geta (r := (o + 2)) dCourse_mayDo_60 fl2_121 rfl (of_l0 ho) (by omega) (hr 1 (by decide)) ?_
    refine a_iload_n 2 dCourse_mayDo_63 rfl rfl ?_
    refine a_ialdN (a := l) dCourse_mayDo_64 (of_l2 ho) (by omega) (by omega) (by decide) ?_
    rw [show (cr60 I md ls cm ni le sl dn fa id0 gr lo) (o + 2) l = (nI q) from (by rw [cr60_off ho 2 (by decide)]; exact hm)]
    refine a_icmp_ne (tgt := 70) dCourse_mayDo_65 (by decide) (fun c65 => ?_) (fun c65 => ?_)
    · exfalso
      rcases h3 with h | h
      · exact c52 h
      · exact c65 h
    · refine a_iconstN (a := 0) dCourse_mayDo_68 (by decide) ?_
      exact a_zret dCourse_mayDo_69 rfl (by rfl) ⟨rfl, rfl, rfl, rfl⟩
theorem c_mayDo2 {S : Nat × (Nat → Int32)} {d n : Nat} {I : mI} {J : mJ} {R : mR} {md ls cm : Nat → Int32} {ni le sl dn fa id0 gr lo : Int32}  (hn : 122 ≤ n) (hR : m_fin R) {o nh nl : Nat} (ho : o ∈ m_offs) (hr : offR R o) (hon : o + 8 < n) (hRo : R 60 0 = some o) (hh : I o 0 = nI nh) (hnh : nh ≤ 6) (hl : I o 1 = nI nl) (hnl : nl ≤ 10) {l : Nat} (hll : l < nl) (h1 : ¬ f_of (nI l) (nI nl) = 0) (h2 : ¬ f_has le (nI l) = 0) {q : Nat} (hq : q < 6) (hm : I (o + 2) l = nI q) {y : Int32}  : RUN S (d + 2) YCourse_mayDo [.ref 60, .int (nI 2), .int (nI l), .int y] (cr60 I md ls cm ni le sl dn fa id0 gr lo) J R n (some (.int 1)) (cr60 I md ls cm ni (le &&& (nI 1 <<< (nI l &&& 31) ^^^ (-1))) sl dn fa id0 gr lo) J R n := by
  show AW S _ YCourse_mayDo n n _ 0 [(0, .ref 60), (1, .int (nI 2)), (2, .int (nI l)), (3, .int y)] [] (cr60 I md ls cm ni le sl dn fa id0 gr lo) J R n
  refine a_iload_n 1 dCourse_mayDo_0 rfl rfl ?_
  refine a_iconstN (a := 3) dCourse_mayDo_1 (by decide) ?_
  refine a_icmp_neN (tgt := 15) dCourse_mayDo_2 (by decide) (by omega) (by omega) (fun _ => ?_) (fun c => False.elim (by omega))
  refine a_aload_n 0 dCourse_mayDo_15 rfl rfl ?_
  refine a_geta (r := o) dCourse_mayDo_16 fl2_21 rfl ly_60 (by omega) hRo ?_
  refine a_iload_n 2 dCourse_mayDo_19 rfl rfl ?_
  refine a_callV (Q' := m_res (some (.int (f_of (nI l) (nI nl)))) (cr60 I md ls cm ni le sl dn fa id0 gr lo) J R) (as := [.int (nI l)]) (st := []) dCourse_mayDo_20 ml2_114 rfl (Nat.le_of_ble_eq_true rfl) (of_l0 ho) rfl rfl (by decide) (by omega) (Nat.le_of_ble_eq_true rfl) rfl (Nat.le_refl _) (Nat.le_refl _) (by have h := c_Office_hasLetter (S := S) (d := d + 1) (J := J) (I := (cr60 I md ls cm ni le sl dn fa id0 gr lo)) (h := (nI l)) ho hr hon; rw [cr60_off0 ho, hl] at h; exact h) (m_go ?_)
  show AW _ _ _ _ _ _ _ _ [.int (f_of (nI l) (nI nl))] _ _ _ _
  refine a_if_eq (tgt := 37) dCourse_mayDo_23 (by decide) (fun c => False.elim (h1 c)) (fun _ => ?_)
  refine a_aload_n 0 dCourse_mayDo_26 rfl rfl ?_
  refine a_geti dCourse_mayDo_27 fl2_31 rfl ly_60 (by omega) ?_
  rw [show (cr60 I md ls cm ni le sl dn fa id0 gr lo) 60 2 = le from rfl]
  refine a_iload_n 2 dCourse_mayDo_30 rfl rfl ?_
  refine a_ishr dCourse_mayDo_31 ?_
  refine a_iconstN (a := 1) dCourse_mayDo_32 (by decide) ?_
  refine a_iand dCourse_mayDo_33 ?_
  refine a_if_ne (tgt := 39) dCourse_mayDo_34 (by decide) (fun _ => ?_) (fun c => False.elim (h2 (has_z.mpr c)))
  refine a_iload_n 1 dCourse_mayDo_39 rfl rfl ?_
  refine a_iconstN (a := 1) dCourse_mayDo_40 (by decide) ?_
  refine a_icmp_neN (tgt := 70) dCourse_mayDo_41 (by decide) (by omega) (by omega) (fun _ => ?_) (fun c => False.elim (by omega))
  refine a_iload_n 1 dCourse_mayDo_70 rfl rfl ?_
  refine a_iconstN (a := 2) dCourse_mayDo_71 (by decide) ?_
  refine a_icmp_neN (tgt := 91) dCourse_mayDo_72 (by decide) (by omega) (by omega) (fun c => False.elim (c rfl)) (fun _ => ?_)
  refine a_aload_n 0 dCourse_mayDo_75 rfl rfl ?_
  refine a_dup dCourse_mayDo_76 rfl ?_
  refine a_geti dCourse_mayDo_77 fl2_31 rfl ly_60 (by omega) ?_
  rw [show (cr60 I md ls cm ni le sl dn fa id0 gr lo) 60 2 = le from rfl]
  refine a_iconstN (a := 1) dCourse_mayDo_80 (by decide) ?_
  refine a_iload_n 2 dCourse_mayDo_81 rfl rfl ?_
  refine a_ishl dCourse_mayDo_82 ?_
  refine a_iconst (v := -1) dCourse_mayDo_83 (by decide) ?_
  refine a_ixor dCourse_mayDo_84 ?_
  refine a_iand dCourse_mayDo_85 ?_
  refine a_puti dCourse_mayDo_86 fl2_31 rfl ly_60 (by omega) ?_
  rw [cr60_f2]
  refine a_iconstN (a := 1) dCourse_mayDo_89 (by decide) ?_
  exact a_zret dCourse_mayDo_90 rfl (by rfl) ⟨rfl, rfl, rfl, rfl⟩
theorem c_mayDo0 {S : Nat × (Nat → Int32)} {d n : Nat} {I : mI} {J : mJ} {R : mR} {md ls cm : Nat → Int32} {ni le sl dn fa id0 gr lo : Int32}  (hn : 122 ≤ n) (hR : m_fin R) {o nh nl : Nat} (ho : o ∈ m_offs) (hr : offR R o) (hon : o + 8 < n) (hRo : R 60 0 = some o) (hh : I o 0 = nI nh) (hnh : nh ≤ 6) (hl : I o 1 = nI nl) (hnl : nl ≤ 10) {l : Nat} (hll : l < nl) (h1 : ¬ f_of (nI l) (nI nl) = 0) (h2 : ¬ f_has le (nI l) = 0) {q : Nat} (hq : q < 6) (hm : I (o + 2) l = nI q) {y : Int32} (hW : WFc I o nl) (hL : WFl ls)  : RUN S (d + 2) YCourse_mayDo [.ref 60, .int (nI 0), .int (nI l), .int y] (cr60 I md ls cm ni le sl dn fa id0 gr lo) J R n (some (.int 1)) (cr60 I (va_up md q (md q + (dsO I o l (ls q)))) (va_up ls q (I (o + 3) l)) (va_up cm q (cm q + 1)) ni (le &&& (1 <<< (nI l &&& 31) ^^^ -1)) sl (dn + (dsO I o l (ls q))) (if (dsO I o l (ls q)) = I (o + 5) l then fa else fa ||| (nI 1 <<< (nI l &&& 31))) (if (dsO I o l (ls q)) = 0 then id0 + 1 else id0) (lwN (va_up md q (md q + (dsO I o l (ls q)))) (lo, gr) nh).2 (lwN (va_up md q (md q + (dsO I o l (ls q)))) (lo, gr) nh).1) J R n := by
  show AW S _ YCourse_mayDo n n _ 0 [(0, .ref 60), (1, .int (nI 0)), (2, .int (nI l)), (3, .int y)] [] (cr60 I md ls cm ni le sl dn fa id0 gr lo) J R n
  refine a_iload_n 1 dCourse_mayDo_0 rfl rfl ?_
  refine a_iconstN (a := 3) dCourse_mayDo_1 (by decide) ?_
  refine a_icmp_neN (tgt := 15) dCourse_mayDo_2 (by decide) (by omega) (by omega) (fun _ => ?_) (fun c => False.elim (by omega))
  refine a_aload_n 0 dCourse_mayDo_15 rfl rfl ?_
  refine a_geta (r := o) dCourse_mayDo_16 fl2_21 rfl ly_60 (by omega) hRo ?_
  refine a_iload_n 2 dCourse_mayDo_19 rfl rfl ?_
  refine a_callV (Q' := m_res (some (.int (f_of (nI l) (nI nl)))) (cr60 I md ls cm ni le sl dn fa id0 gr lo) J R) (as := [.int (nI l)]) (st := []) dCourse_mayDo_20 ml2_114 rfl (Nat.le_of_ble_eq_true rfl) (of_l0 ho) rfl rfl (by decide) (by omega) (Nat.le_of_ble_eq_true rfl) rfl (Nat.le_refl _) (Nat.le_refl _) (by have h := c_Office_hasLetter (S := S) (d := d + 1) (J := J) (I := (cr60 I md ls cm ni le sl dn fa id0 gr lo)) (h := (nI l)) ho hr hon; rw [cr60_off0 ho, hl] at h; exact h) (m_go ?_)
  show AW _ _ _ _ _ _ _ _ [.int (f_of (nI l) (nI nl))] _ _ _ _
  refine a_if_eq (tgt := 37) dCourse_mayDo_23 (by decide) (fun c => False.elim (h1 c)) (fun _ => ?_)
  refine a_aload_n 0 dCourse_mayDo_26 rfl rfl ?_
  refine a_geti dCourse_mayDo_27 fl2_31 rfl ly_60 (by omega) ?_
  rw [show (cr60 I md ls cm ni le sl dn fa id0 gr lo) 60 2 = le from rfl]
  refine a_iload_n 2 dCourse_mayDo_30 rfl rfl ?_
  refine a_ishr dCourse_mayDo_31 ?_
  refine a_iconstN (a := 1) dCourse_mayDo_32 (by decide) ?_
  refine a_iand dCourse_mayDo_33 ?_
  refine a_if_ne (tgt := 39) dCourse_mayDo_34 (by decide) (fun _ => ?_) (fun c => False.elim (h2 (has_z.mpr c)))
  refine a_iload_n 1 dCourse_mayDo_39 rfl rfl ?_
  refine a_iconstN (a := 1) dCourse_mayDo_40 (by decide) ?_
  refine a_icmp_neN (tgt := 70) dCourse_mayDo_41 (by decide) (by omega) (by omega) (fun _ => ?_) (fun c => False.elim (by omega))
  refine a_iload_n 1 dCourse_mayDo_70 rfl rfl ?_
  refine a_iconstN (a := 2) dCourse_mayDo_71 (by decide) ?_
  refine a_icmp_neN (tgt := 91) dCourse_mayDo_72 (by decide) (by omega) (by omega) (fun _ => ?_) (fun c => False.elim (by omega))
  refine a_iload_n 1 dCourse_mayDo_91 rfl rfl ?_
  refine a_iconstN (a := 1) dCourse_mayDo_92 (by decide) ?_
  refine a_icmp_neN (tgt := 106) dCourse_mayDo_93 (by decide) (by omega) (by omega) (fun _ => ?_) (fun c => False.elim (by omega))
  refine a_aload_n 0 dCourse_mayDo_106 rfl rfl ?_
  refine a_iload_n 2 dCourse_mayDo_107 rfl rfl ?_
  refine a_iload_n 1 dCourse_mayDo_108 rfl rfl ?_
  refine a_iconstN (a := 1) dCourse_mayDo_109 (by decide) ?_
  refine a_icmp_neN (tgt := 117) dCourse_mayDo_110 (by decide) (by omega) (by omega) (fun _ => ?_) (fun c => False.elim (by omega))
  refine a_aload_n 0 dCourse_mayDo_117 rfl rfl ?_
  refine a_geta (r := o) dCourse_mayDo_118 fl2_21 rfl ly_60 (by omega) hRo ?_
  refine a_geta (r := (o + 2)) dCourse_mayDo_121 fl2_121 rfl (of_l0 ho) (by omega) (hr 1 (by decide)) ?_
  refine a_iload_n 2 dCourse_mayDo_124 rfl rfl ?_
  refine a_ialdN (a := l) dCourse_mayDo_125 (of_l2 ho) (by omega) (by omega) (by decide) ?_
  rw [show (cr60 I md ls cm ni le sl dn fa id0 gr lo) (o + 2) l = (nI q) from (by rw [cr60_off ho 2 (by decide)]; exact hm)]
  refine a_callV (Q' := m_res none (cr60 I (va_up md q (md q + (dsO I o l (ls q)))) (va_up ls q (I (o + 3) l)) (va_up cm q (cm q + 1)) ni (le &&& (1 <<< (nI l &&& 31) ^^^ -1)) sl (dn + (dsO I o l (ls q))) (if (dsO I o l (ls q)) = I (o + 5) l then fa else fa ||| (nI 1 <<< (nI l &&& 31))) (if (dsO I o l (ls q)) = 0 then id0 + 1 else id0) gr lo) J R) (as := [.int (nI l), .int (nI q)]) (st := []) dCourse_mayDo_126 ml2_124 rfl (Nat.le_of_ble_eq_true rfl) ly_60 rfl rfl (by decide) (by omega) (Nat.le_of_ble_eq_true rfl) rfl (Nat.le_refl _) (Nat.le_refl _) (c_bring hn hR ho hr hon hRo hh hnh hl hnl (by omega) (by omega) hW (hL q hq)) (m_go ?_)
  show AW _ _ _ _ _ _ _ _ [] _ _ _ _
  refine a_aload_n 0 dCourse_mayDo_129 rfl rfl ?_
  refine a_callV (Q' := m_res none (cr60 I (va_up md q (md q + (dsO I o l (ls q)))) (va_up ls q (I (o + 3) l)) (va_up cm q (cm q + 1)) ni (le &&& (1 <<< (nI l &&& 31) ^^^ -1)) sl (dn + (dsO I o l (ls q))) (if (dsO I o l (ls q)) = I (o + 5) l then fa else fa ||| (nI 1 <<< (nI l &&& 31))) (if (dsO I o l (ls q)) = 0 then id0 + 1 else id0) ((lwN (va_up md q (md q + (dsO I o l (ls q)))) (lo, gr) nh).2) ((lwN (va_up md q (md q + (dsO I o l (ls q)))) (lo, gr) nh).1)) J R) (as := []) (st := []) dCourse_mayDo_130 ml2_68 rfl (Nat.le_of_ble_eq_true rfl) ly_60 rfl rfl (by decide) (by omega) (Nat.le_of_ble_eq_true rfl) rfl (Nat.le_refl _) (Nat.le_refl _) (c_noteLow hn hR ho hr hon hRo hh hnh hl hnl) (m_go ?_)
  show AW _ _ _ _ _ _ _ _ [] _ _ _ _
  refine a_iconstN (a := 1) dCourse_mayDo_133 (by decide) ?_
  exact a_zret dCourse_mayDo_134 rfl (by rfl) ⟨rfl, rfl, rfl, rfl⟩
theorem c_mayDo1 {S : Nat × (Nat → Int32)} {d n : Nat} {I : mI} {J : mJ} {R : mR} {md ls cm : Nat → Int32} {ni le sl dn fa id0 gr lo : Int32}  (hn : 122 ≤ n) (hR : m_fin R) {o nh nl : Nat} (ho : o ∈ m_offs) (hr : offR R o) (hon : o + 8 < n) (hRo : R 60 0 = some o) (hh : I o 0 = nI nh) (hnh : nh ≤ 6) (hl : I o 1 = nI nl) (hnl : nl ≤ 10) {l : Nat} (hll : l < nl) (h1 : ¬ f_of (nI l) (nI nl) = 0) (h2 : ¬ f_has le (nI l) = 0) {q : Nat} (hq : q < 6) (hm : I (o + 2) l = nI q) {h : Nat} (hh6 : h < 6) (h3 : ¬ f_of (nI h) (nI nh) = 0) (h4 : h ≠ q) (hW : WFc I o nl) (hL : WFl ls)  : RUN S (d + 2) YCourse_mayDo [.ref 60, .int (nI 1), .int (nI l), .int (nI h)] (cr60 I md ls cm ni le sl dn fa id0 gr lo) J R n (some (.int 1)) (cr60 I (va_up md h (md h + (dsO I o l (ls h)))) (va_up ls h (I (o + 3) l)) (va_up cm h (cm h + 1)) ni (le &&& (1 <<< (nI l &&& 31) ^^^ -1)) (sl + 1) (dn + (dsO I o l (ls h))) (if (dsO I o l (ls h)) = I (o + 5) l then fa else fa ||| (nI 1 <<< (nI l &&& 31))) (if (dsO I o l (ls h)) = 0 then id0 + 1 else id0) (lwN (va_up md h (md h + (dsO I o l (ls h)))) (lo, gr) nh).2 (lwN (va_up md h (md h + (dsO I o l (ls h)))) (lo, gr) nh).1) J R n := by
  show AW S _ YCourse_mayDo n n _ 0 [(0, .ref 60), (1, .int (nI 1)), (2, .int (nI l)), (3, .int (nI h))] [] (cr60 I md ls cm ni le sl dn fa id0 gr lo) J R n
  refine a_iload_n 1 dCourse_mayDo_0 rfl rfl ?_
  refine a_iconstN (a := 3) dCourse_mayDo_1 (by decide) ?_
  refine a_icmp_neN (tgt := 15) dCourse_mayDo_2 (by decide) (by omega) (by omega) (fun _ => ?_) (fun c => False.elim (by omega))
  refine a_aload_n 0 dCourse_mayDo_15 rfl rfl ?_
  refine a_geta (r := o) dCourse_mayDo_16 fl2_21 rfl ly_60 (by omega) hRo ?_
  refine a_iload_n 2 dCourse_mayDo_19 rfl rfl ?_
  refine a_callV (Q' := m_res (some (.int (f_of (nI l) (nI nl)))) (cr60 I md ls cm ni le sl dn fa id0 gr lo) J R) (as := [.int (nI l)]) (st := []) dCourse_mayDo_20 ml2_114 rfl (Nat.le_of_ble_eq_true rfl) (of_l0 ho) rfl rfl (by decide) (by omega) (Nat.le_of_ble_eq_true rfl) rfl (Nat.le_refl _) (Nat.le_refl _) (by have h := c_Office_hasLetter (S := S) (d := d + 1) (J := J) (I := (cr60 I md ls cm ni le sl dn fa id0 gr lo)) (h := (nI l)) ho hr hon; rw [cr60_off0 ho, hl] at h; exact h) (m_go ?_)
  show AW _ _ _ _ _ _ _ _ [.int (f_of (nI l) (nI nl))] _ _ _ _
  refine a_if_eq (tgt := 37) dCourse_mayDo_23 (by decide) (fun c => False.elim (h1 c)) (fun _ => ?_)
  refine a_aload_n 0 dCourse_mayDo_26 rfl rfl ?_
  refine a_geti dCourse_mayDo_27 fl2_31 rfl ly_60 (by omega) ?_
  rw [show (cr60 I md ls cm ni le sl dn fa id0 gr lo) 60 2 = le from rfl]
  refine a_iload_n 2 dCourse_mayDo_30 rfl rfl ?_
  refine a_ishr dCourse_mayDo_31 ?_
  refine a_iconstN (a := 1) dCourse_mayDo_32 (by decide) ?_
  refine a_iand dCourse_mayDo_33 ?_
  refine a_if_ne (tgt := 39) dCourse_mayDo_34 (by decide) (fun _ => ?_) (fun c => False.elim (h2 (has_z.mpr c)))
  refine a_iload_n 1 dCourse_mayDo_39 rfl rfl ?_
  refine a_iconstN (a := 1) dCourse_mayDo_40 (by decide) ?_
  refine a_icmp_neN (tgt := 70) dCourse_mayDo_41 (by decide) (by omega) (by omega) (fun c => False.elim (c rfl)) (fun _ => ?_)
  refine a_aload_n 0 dCourse_mayDo_44 rfl rfl ?_
  refine a_geta (r := o) dCourse_mayDo_45 fl2_21 rfl ly_60 (by omega) hRo ?_
  refine a_iload_n 3 dCourse_mayDo_48 rfl rfl ?_
  refine a_callV (Q' := m_res (some (.int (f_of (nI h) (nI nh)))) (cr60 I md ls cm ni le sl dn fa id0 gr lo) J R) (as := [.int (nI h)]) (st := []) dCourse_mayDo_49 ml2_118 rfl (Nat.le_of_ble_eq_true rfl) (of_l0 ho) rfl rfl (by decide) (by omega) (Nat.le_of_ble_eq_true rfl) rfl (Nat.le_refl _) (Nat.le_refl _) (by have h := c_Office_hasHouse (S := S) (d := d + 1) (J := J) (I := (cr60 I md ls cm ni le sl dn fa id0 gr lo)) (h := (nI h)) ho hr hon; rw [cr60_off0 ho, hh] at h; exact h) (m_go ?_)
  show AW _ _ _ _ _ _ _ _ [.int (f_of (nI h) (nI nh))] _ _ _ _
  refine a_if_eq (tgt := 68) dCourse_mayDo_52 (by decide) (fun c => False.elim (h3 c)) (fun _ => ?_)
  refine a_iload_n 3 dCourse_mayDo_55 rfl rfl ?_
  refine a_aload_n 0 dCourse_mayDo_56 rfl rfl ?_
  refine a_geta (r := o) dCourse_mayDo_57 fl2_21 rfl ly_60 (by omega) hRo ?_
  refine a_geta (r := (o + 2)) dCourse_mayDo_60 fl2_121 rfl (of_l0 ho) (by omega) (hr 1 (by decide)) ?_
  refine a_iload_n 2 dCourse_mayDo_63 rfl rfl ?_
  refine a_ialdN (a := l) dCourse_mayDo_64 (of_l2 ho) (by omega) (by omega) (by decide) ?_
  rw [show (cr60 I md ls cm ni le sl dn fa id0 gr lo) (o + 2) l = (nI q) from (by rw [cr60_off ho 2 (by decide)]; exact hm)]
  refine a_icmp_neN (tgt := 70) dCourse_mayDo_65 (by decide) (by omega) (by omega) (fun _ => ?_) (fun c => False.elim (h4 c))
  refine a_iload_n 1 dCourse_mayDo_70 rfl rfl ?_
  refine a_iconstN (a := 2) dCourse_mayDo_71 (by decide) ?_
  refine a_icmp_neN (tgt := 91) dCourse_mayDo_72 (by decide) (by omega) (by omega) (fun _ => ?_) (fun c => False.elim (by omega))
  refine a_iload_n 1 dCourse_mayDo_91 rfl rfl ?_
  refine a_iconstN (a := 1) dCourse_mayDo_92 (by decide) ?_
  refine a_icmp_neN (tgt := 106) dCourse_mayDo_93 (by decide) (by omega) (by omega) (fun c => False.elim (c rfl)) (fun _ => ?_)
  refine a_aload_n 0 dCourse_mayDo_96 rfl rfl ?_
  refine a_dup dCourse_mayDo_97 rfl ?_
  refine a_geti dCourse_mayDo_98 fl2_37 rfl ly_60 (by omega) ?_
  rw [show (cr60 I md ls cm ni le sl dn fa id0 gr lo) 60 4 = sl from rfl]
  refine a_iconstN (a := 1) dCourse_mayDo_101 (by decide) ?_
  refine a_iadd dCourse_mayDo_102 ?_
  refine a_puti dCourse_mayDo_103 fl2_37 rfl ly_60 (by omega) ?_
  rw [cr60_f4]
  refine a_aload_n 0 dCourse_mayDo_106 rfl rfl ?_
  refine a_iload_n 2 dCourse_mayDo_107 rfl rfl ?_
  refine a_iload_n 1 dCourse_mayDo_108 rfl rfl ?_
  refine a_iconstN (a := 1) dCourse_mayDo_109 (by decide) ?_
  refine a_icmp_neN (tgt := 117) dCourse_mayDo_110 (by decide) (by omega) (by omega) (fun c => False.elim (c rfl)) (fun _ => ?_)
  refine a_iload_n 3 dCourse_mayDo_113 rfl rfl ?_
  refine a_goto (tgt := 126) dCourse_mayDo_114 (by decide) ?_
  refine a_callV (Q' := m_res none (cr60 I (va_up md h (md h + (dsO I o l (ls h)))) (va_up ls h (I (o + 3) l)) (va_up cm h (cm h + 1)) ni (le &&& (1 <<< (nI l &&& 31) ^^^ -1)) (sl + (nI 1)) (dn + (dsO I o l (ls h))) (if (dsO I o l (ls h)) = I (o + 5) l then fa else fa ||| (nI 1 <<< (nI l &&& 31))) (if (dsO I o l (ls h)) = 0 then id0 + 1 else id0) gr lo) J R) (as := [.int (nI l), .int (nI h)]) (st := []) dCourse_mayDo_126 ml2_124 rfl (Nat.le_of_ble_eq_true rfl) ly_60 rfl rfl (by decide) (by omega) (Nat.le_of_ble_eq_true rfl) rfl (Nat.le_refl _) (Nat.le_refl _) (c_bring hn hR ho hr hon hRo hh hnh hl hnl (by omega) (by omega) hW (hL h hh6)) (m_go ?_)
  show AW _ _ _ _ _ _ _ _ [] _ _ _ _
  refine a_aload_n 0 dCourse_mayDo_129 rfl rfl ?_
  refine a_callV (Q' := m_res none (cr60 I (va_up md h (md h + (dsO I o l (ls h)))) (va_up ls h (I (o + 3) l)) (va_up cm h (cm h + 1)) ni (le &&& (1 <<< (nI l &&& 31) ^^^ -1)) (sl + (nI 1)) (dn + (dsO I o l (ls h))) (if (dsO I o l (ls h)) = I (o + 5) l then fa else fa ||| (nI 1 <<< (nI l &&& 31))) (if (dsO I o l (ls h)) = 0 then id0 + 1 else id0) ((lwN (va_up md h (md h + (dsO I o l (ls h)))) (lo, gr) nh).2) ((lwN (va_up md h (md h + (dsO I o l (ls h)))) (lo, gr) nh).1)) J R) (as := []) (st := []) dCourse_mayDo_130 ml2_68 rfl (Nat.le_of_ble_eq_true rfl) ly_60 rfl rfl (by decide) (by omega) (Nat.le_of_ble_eq_true rfl) rfl (Nat.le_refl _) (Nat.le_refl _) (c_noteLow hn hR ho hr hon hRo hh hnh hl hnl) (m_go ?_)
  show AW _ _ _ _ _ _ _ _ [] _ _ _ _
  refine a_iconstN (a := 1) dCourse_mayDo_133 (by decide) ?_
  exact a_zret dCourse_mayDo_134 rfl (by rfl) ⟨rfl, rfl, rfl, rfl⟩
/-- behind a deed: how the course stands, and the lowest mood -/
def lwU (nh u : Nat) (s : cS) (p : Int32 × Int32) : Int32 × Int32 := if u = 2 then p else lwN s.1 p nh
theorem gvS_c {ds : Nat → Int32 → Int32} {bs kd : Nat → Int32} {s : cS} {l h : Nat} : gvS ds bs kd s l h = (va_up s.1 h (s.1 h + ds l (s.2.1 h)), va_up s.2.1 h (kd l), va_up s.2.2.1 h (s.2.2.1 h + 1), s.2.2.2.1, s.2.2.2.2.1 &&& (1 <<< (nI l &&& 31) ^^^ -1), s.2.2.2.2.2.1, s.2.2.2.2.2.2.1 + ds l (s.2.1 h), (if ds l (s.2.1 h) = bs l then s.2.2.2.2.2.2.2.1 else s.2.2.2.2.2.2.2.1 ||| (nI 1 <<< (nI l &&& 31))), (if ds l (s.2.1 h) = 0 then s.2.2.2.2.2.2.2.2 + 1 else s.2.2.2.2.2.2.2.2)) := by
  unfold gvS
  have e1 : ∀ (c : Prop) [Decidable c] (a b : Int32), (a ||| (if c then nI 0 else b)) = (if c then a else a ||| b) := by
    intro c _ a b
    split
    · exact Int32.or_zero
    · rfl
  have e2 : ∀ (c : Prop) [Decidable c] (a : Int32), (a + (if c then nI 1 else nI 0)) = (if c then a + 1 else a) := by
    intro c _ a
    split
    · rfl
    · exact Int32.add_zero _
  rw [e1, e2]
theorem c_mayDoG {S : Nat × (Nat → Int32)} {d n : Nat} {I : mI} {J : mJ} {R : mR} {s : cS} {p : Int32 × Int32} (hn : 122 ≤ n) (hR : m_fin R) {o nh nl : Nat} (ho : o ∈ m_offs) (hr : offR R o) (hon : o + 8 < n) (hRo : R 60 0 = some o) (hh : I o 0 = nI nh) (hnh : nh ≤ 6) (hl : I o 1 = nI nl) (hnl : nl ≤ 10) {u : Nat} {x y : Int32} (hu : u < 4) (hW : WFc I o nl) (hH : WFh (I (o + 2)) nl) (hL : WFl s.2.1) : RUN S (d + 2) YCourse_mayDo [.ref 60, .int (nI u), .int x, .int y] (ccT I s p) J R n (some (.int (if doF nh nl (I (o + 2)) (dsO I o) (I (o + 5)) (I (o + 3)) nh s u x y = none then 0 else 1))) (match doF nh nl (I (o + 2)) (dsO I o) (I (o + 5)) (I (o + 3)) nh s u x y with | none => ccT I s p | some s' => ccT I s' (lwU nh u s' p)) J R n := by
  have hfo : ∀ z : Int32, f_in z 0 (nI nl - 1) = f_of z (nI nl) := fun z => f_in_of (by omega)
  have hfh : ∀ z : Int32, f_in z 0 (nI nh - 1) = f_of z (nI nh) := fun z => f_in_of (by omega)
  by_cases h3 : u = 3
  · subst h3
    rw [doF_3]
    have e : ntS nh s = (m_fill (fun j => ntC (s.1 j)) s.1 nh, m_fill (fun _ => -1) s.2.1 nh, s.2.2.1, s.2.2.2.1 + 1, s.2.2.2.2) := by
      unfold ntS
      simp only [ntC_F]
    rw [e]
    exact c_mayDo3 hn hR ho hr hon hRo hh hnh hl hnl
  by_cases h0 : f_in x 0 (nI nl - 1) = 0 ∨ f_has s.2.2.2.2.1 x = 0
  · rw [doF_n h3 h0]
    rw [hfo] at h0
    exact c_mayDoN hn hR ho hr hon hRo hh hnh hl hnl (by omega) h0
  have h1 : ¬ f_in x 0 (nI nl - 1) = 0 := fun c => h0 (Or.inl c)
  have h2 : ¬ f_has s.2.2.2.2.1 x = 0 := fun c => h0 (Or.inr c)
  have h1' := h1
  rw [hfo] at h1'
  obtain ⟨l, hll, rfl⟩ := f_in_nz (by omega) h1
  obtain ⟨q, hq, hm⟩ := hH l hll
  rcases (show u = 0 ∨ u = 1 ∨ u = 2 by omega) with rfl | rfl | rfl
  · rw [doF_0 h1 h2, nI_clamp (by omega), hm, nI_clamp (by omega), gvS_c]
    have hh9 := c_mayDo0 (S := S) (d := d) (J := J) (R := R) (y := y) (md := s.1) (ls := s.2.1) (cm := s.2.2.1) (ni := s.2.2.2.1) (le := s.2.2.2.2.1) (sl := s.2.2.2.2.2.1) (dn := s.2.2.2.2.2.2.1) (fa := s.2.2.2.2.2.2.2.1) (id0 := s.2.2.2.2.2.2.2.2) (gr := p.2) (lo := p.1) hn hR ho hr hon hRo hh hnh hl hnl hll h1' h2 hq hm hW hL
    have e0 : s.2.2.2.2.2.1 = s.2.2.2.2.2.1 + 0 := (Int32.add_zero _).symm
    rw [e0] at hh9
    rw [← e0] at hh9
    unfold slS
    dsimp only
    rw [← e0]
    exact hh9
  · by_cases h4 : f_in y 0 (nI nh - 1) = 0 ∨ y = nI q
    · rw [doF_1n h1 h2 (by rw [nI_clamp (by omega), hm]; exact h4)]
      rw [hfh] at h4
      exact c_mayDo1n hn hR ho hr hon hRo hh hnh hl hnl hll h1' h2 hq hm h4
    · have h5 : ¬ f_in y 0 (nI nh - 1) = 0 := fun c => h4 (Or.inl c)
      have h5' := h5
      rw [hfh] at h5'
      obtain ⟨h, hhh, rfl⟩ := f_in_nz (by omega) h5
      rw [doF_1 h1 h2 h5 (by rw [nI_clamp (by omega), hm]; exact fun c => h4 (Or.inr c)), nI_clamp (by omega), nI_clamp (by omega), gvS_c]
      exact c_mayDo1 hn hR ho hr hon hRo hh hnh hl hnl hll h1' h2 hq hm (by omega) h5' (fun c => h4 (Or.inr (by rw [c]))) hW hL
  · rw [doF_2 h1 h2, nI_clamp (by omega)]
    exact c_mayDo2 hn hR ho hr hon hRo hh hnh hl hnl hll h1' h2 hq hm
