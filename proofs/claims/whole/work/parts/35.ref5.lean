/-- a course: moods, what came last, how many came; nights, left, slipped, done, failed, idle -/
abbrev cS : Type := (Nat → Int32) × (Nat → Int32) × (Nat → Int32) × Int32 × Int32 × Int32 × Int32 × Int32 × Int32
abbrev crT (I : mI) (s : cS) : mI := crR I s.1 s.2.1 s.2.2.1 s.2.2.2.1 s.2.2.2.2.1 s.2.2.2.2.2.1 s.2.2.2.2.2.2.1 s.2.2.2.2.2.2.2.1 s.2.2.2.2.2.2.2.2
/-- a letter comes to a house -/
def gvS (ds : Nat → Int32 → Int32) (bs kd : Nat → Int32) (s : cS) (l h : Nat) : cS :=
  (va_up s.1 h (s.1 h + ds l (s.2.1 h)), va_up s.2.1 h (kd l), va_up s.2.2.1 h (s.2.2.1 h + 1), s.2.2.2.1, s.2.2.2.2.1 &&& (1 <<< (nI l &&& 31) ^^^ -1), s.2.2.2.2.2.1, s.2.2.2.2.2.2.1 + ds l (s.2.1 h), s.2.2.2.2.2.2.2.1 ||| (if ds l (s.2.1 h) = bs l then nI 0 else nI 1 <<< (nI l &&& 31)), s.2.2.2.2.2.2.2.2 + (if ds l (s.2.1 h) = 0 then nI 1 else nI 0))
def ntS (H : Nat) (s : cS) : cS := (m_fill (fun j => ntF (s.1 j)) s.1 H, m_fill (fun _ => -1) s.2.1 H, s.2.2.1, s.2.2.2.1 + 1, s.2.2.2.2)
def buS (s : cS) (l : Nat) : cS := (s.1, s.2.1, s.2.2.1, s.2.2.2.1, s.2.2.2.2.1 &&& (1 <<< (nI l &&& 31) ^^^ -1), s.2.2.2.2.2)
def slS (s : cS) (x : Int32) : cS := (s.1, s.2.1, s.2.2.1, s.2.2.2.1, s.2.2.2.2.1, s.2.2.2.2.2.1 + x, s.2.2.2.2.2.2)
/-- a deed, if it can be done -/
def doF (nh nl : Nat) (hm : Nat → Int32) (ds : Nat → Int32 → Int32) (bs kd : Nat → Int32) (H : Nat) (s : cS) (u : Nat) (l h : Int32) : Option cS :=
  if u = 3 then some (ntS H s)
  else if f_in l 0 (nI nl - 1) = 0 ∨ f_has s.2.2.2.2.1 l = 0 then none
  else if u = 1 ∧ (f_in h 0 (nI nh - 1) = 0 ∨ h = hm l.toNatClampNeg) then none
  else if u = 2 then some (buS s l.toNatClampNeg)
  else if u = 1 then some (slS (gvS ds bs kd s l.toNatClampNeg h.toNatClampNeg) 1)
  else some (slS (gvS ds bs kd s l.toNatClampNeg (hm l.toNatClampNeg).toNatClampNeg) 0)
/-- homes are houses, what came last is a kind -/
def WFh (f : Nat → Int32) (nl : Nat) : Prop := ∀ l, l < nl → ∃ q, q < 6 ∧ f l = nI q
def WFl (f : Nat → Int32) : Prop := ∀ h, h < 6 → kOK (f h)
theorem c_M_isLeft0 {S : Nat × (Nat → Int32)} {d n : Nat} {I : mI} {J : mJ} {R : mR} {md ls cm : Nat → Int32} {ni le sl dn fa id0 : Int32}  {ko nh nl : Nat} (hn : 122 ≤ n) (hR : m_fin R) (ho : I 95 23 = nI ko) (hk : ko < 7) (hh : I 95 24 = nI nh) (hnh : nh ≤ 6) (hl : I 95 25 = nI nl) (hnl : nl ≤ 10) (hW : WFk I ko) {x : Int32} (h0 : f_in x 0 (nI nl - 1) = 0 ∨ f_has le x = 0) : RUN S (d + 2) YM_isLeft [.ref 95, .int x] (crR I md ls cm ni le sl dn fa id0) J R n (some (.int 0)) (crR I md ls cm ni le sl dn fa id0) J R n := by
  show AW S _ YM_isLeft n n _ 0 [(0, .ref 95), (1, .int x)] [] (crR I md ls cm ni le sl dn fa id0) J R n
  refine a_aload_n 0 dM_isLeft_0 rfl rfl ?_
  refine a_iload_n 1 dM_isLeft_1 rfl rfl ?_
  refine a_callV (Q' := m_res (some (.int (f_in x 0 (nI nl - 1)))) (crR I md ls cm ni le sl dn fa id0) J R) (as := [.int x]) (st := []) dM_isLeft_2 ml12_280 rfl (Nat.le_of_ble_eq_true rfl) ly_95 rfl rfl (by decide) (by omega) (Nat.le_of_ble_eq_true rfl) rfl (Nat.le_refl _) (Nat.le_refl _) (by have h := c_M_isLetter (S := S) (d := d) (J := J) (R := R) (I := (crR I md ls cm ni le sl dn fa id0)) (h := x) hn; rw [crR_f (by decide), hl] at h; exact h) (m_go ?_)
  show AW _ _ _ _ _ _ _ _ [.int (f_in x 0 (nI nl - 1))] _ _ _ _
  refine a_if_eq (tgt := 23) dM_isLeft_5 (by decide) (fun c5 => ?_) (fun c5 => ?_)
  · refine a_iconstN (a := 0) dM_isLeft_23 (by decide) ?_
    exact a_zret dM_isLeft_24 rfl (by rfl) ⟨rfl, rfl, rfl, rfl⟩
  · refine a_aload_n 0 dM_isLeft_8 rfl rfl ?_
    refine a_geti dM_isLeft_9 fl12_301 rfl ly_95 (by omega) ?_
    rw [show (crR I md ls cm ni le sl dn fa id0) 95 33 = le from rfl]
    refine a_iload_n 1 dM_isLeft_12 rfl rfl ?_
    refine a_callS (Q' := m_res (some (.int (f_has le x))) (crR I md ls cm ni le sl dn fa id0) J R) (as := [.int le, .int x]) (st := []) dM_isLeft_13 ml12_94 rfl (Nat.le_of_ble_eq_true rfl) (Nat.le_of_ble_eq_true rfl) rfl (Nat.le_refl _) (Nat.le_refl _) c_M_has (m_go ?_)
    show AW _ _ _ _ _ _ _ _ [.int (f_has le x)] _ _ _ _
    refine a_if_eq (tgt := 23) dM_isLeft_16 (by decide) (fun c16 => ?_) (fun c16 => ?_)
    · refine a_iconstN (a := 0) dM_isLeft_23 (by decide) ?_
      exact a_zret dM_isLeft_24 rfl (by rfl) ⟨rfl, rfl, rfl, rfl⟩
    · refine a_iconstN (a := 1) dM_isLeft_19 (by decide) ?_
      refine a_goto (tgt := 24) dM_isLeft_20 (by decide) ?_
      exact a_zret dM_isLeft_24 rfl (by rfl) (by exfalso; rcases h0 with h | h; exact c5 h; exact c16 h)
theorem c_M_isLeft1 {S : Nat × (Nat → Int32)} {d n : Nat} {I : mI} {J : mJ} {R : mR} {md ls cm : Nat → Int32} {ni le sl dn fa id0 : Int32}  {ko nh nl : Nat} (hn : 122 ≤ n) (hR : m_fin R) (ho : I 95 23 = nI ko) (hk : ko < 7) (hh : I 95 24 = nI nh) (hnh : nh ≤ 6) (hl : I 95 25 = nI nl) (hnl : nl ≤ 10) (hW : WFk I ko) {x : Int32} (h1 : ¬ f_in x 0 (nI nl - 1) = 0) (h2 : ¬ f_has le x = 0) : RUN S (d + 2) YM_isLeft [.ref 95, .int x] (crR I md ls cm ni le sl dn fa id0) J R n (some (.int 1)) (crR I md ls cm ni le sl dn fa id0) J R n := by
  show AW S _ YM_isLeft n n _ 0 [(0, .ref 95), (1, .int x)] [] (crR I md ls cm ni le sl dn fa id0) J R n
  refine a_aload_n 0 dM_isLeft_0 rfl rfl ?_
  refine a_iload_n 1 dM_isLeft_1 rfl rfl ?_
  refine a_callV (Q' := m_res (some (.int (f_in x 0 (nI nl - 1)))) (crR I md ls cm ni le sl dn fa id0) J R) (as := [.int x]) (st := []) dM_isLeft_2 ml12_280 rfl (Nat.le_of_ble_eq_true rfl) ly_95 rfl rfl (by decide) (by omega) (Nat.le_of_ble_eq_true rfl) rfl (Nat.le_refl _) (Nat.le_refl _) (by have h := c_M_isLetter (S := S) (d := d) (J := J) (R := R) (I := (crR I md ls cm ni le sl dn fa id0)) (h := x) hn; rw [crR_f (by decide), hl] at h; exact h) (m_go ?_)
  show AW _ _ _ _ _ _ _ _ [.int (f_in x 0 (nI nl - 1))] _ _ _ _
  refine a_if_eq (tgt := 23) dM_isLeft_5 (by decide) (fun c => False.elim (h1 c)) (fun _ => ?_)
  refine a_aload_n 0 dM_isLeft_8 rfl rfl ?_
  refine a_geti dM_isLeft_9 fl12_301 rfl ly_95 (by omega) ?_
  rw [show (crR I md ls cm ni le sl dn fa id0) 95 33 = le from rfl]
  refine a_iload_n 1 dM_isLeft_12 rfl rfl ?_
  refine a_callS (Q' := m_res (some (.int (f_has le x))) (crR I md ls cm ni le sl dn fa id0) J R) (as := [.int le, .int x]) (st := []) dM_isLeft_13 ml12_94 rfl (Nat.le_of_ble_eq_true rfl) (Nat.le_of_ble_eq_true rfl) rfl (Nat.le_refl _) (Nat.le_refl _) c_M_has (m_go ?_)
  show AW _ _ _ _ _ _ _ _ [.int (f_has le x)] _ _ _ _
  refine a_if_eq (tgt := 23) dM_isLeft_16 (by decide) (fun c => False.elim (h2 c)) (fun _ => ?_)
  refine a_iconstN (a := 1) dM_isLeft_19 (by decide) ?_
  refine a_goto (tgt := 24) dM_isLeft_20 (by decide) ?_
  exact a_zret dM_isLeft_24 rfl (by rfl) ⟨rfl, rfl, rfl, rfl⟩
theorem c_M_doesN {S : Nat × (Nat → Int32)} {d n : Nat} {I : mI} {J : mJ} {R : mR} {md ls cm : Nat → Int32} {ni le sl dn fa id0 : Int32}  {ko nh nl : Nat} (hn : 122 ≤ n) (hR : m_fin R) (ho : I 95 23 = nI ko) (hk : ko < 7) (hh : I 95 24 = nI nh) (hnh : nh ≤ 6) (hl : I 95 25 = nI nl) (hnl : nl ≤ 10) (hW : WFk I ko) {u : Nat} {x y : Int32} (hu : u < 3) (h0 : f_in x 0 (nI nl - 1) = 0 ∨ f_has le x = 0) : RUN S (d + 6) YM_does [.ref 95, .int (nI u), .int x, .int y] (crR I md ls cm ni le sl dn fa id0) J R n (some (.int 0)) (crR I md ls cm ni le sl dn fa id0) J R n := by
  show AW S _ YM_does n n _ 0 [(0, .ref 95), (1, .int (nI u)), (2, .int x), (3, .int y)] [] (crR I md ls cm ni le sl dn fa id0) J R n
  refine a_iload_n 1 dM_does_0 rfl rfl ?_
  refine a_iconstN (a := 3) dM_does_1 (by decide) ?_
  refine a_icmp_neN (tgt := 84) dM_does_2 (by decide) (by omega) (by omega) (fun _ => ?_) (fun c => False.elim (by omega))
  refine a_aload_n 0 dM_does_84 rfl rfl ?_
  refine a_iload_n 2 dM_does_85 rfl rfl ?_
  refine a_callV (Q' := m_res (some (.int 0)) (crR I md ls cm ni le sl dn fa id0) J R) (as := [.int x]) (st := []) dM_does_86 ml12_319 rfl (Nat.le_of_ble_eq_true rfl) ly_95 rfl rfl (by decide) (by omega) (Nat.le_of_ble_eq_true rfl) rfl (Nat.le_refl _) (Nat.le_refl _) (c_M_isLeft0 hn hR ho hk hh hnh hl hnl hW h0) (m_go ?_)
  show AW _ _ _ _ _ _ _ _ [.int 0] _ _ _ _
  refine a_if_eq (tgt := 115) dM_does_89 (by decide) (fun _ => ?_) (fun c => False.elim (c rfl))
  refine a_iconstN (a := 0) dM_does_115 (by decide) ?_
  exact a_zret dM_does_116 rfl (by rfl) ⟨rfl, rfl, rfl, rfl⟩
theorem c_M_does1n {S : Nat × (Nat → Int32)} {d n : Nat} {I : mI} {J : mJ} {R : mR} {md ls cm : Nat → Int32} {ni le sl dn fa id0 : Int32}  {ko nh nl : Nat} (hn : 122 ≤ n) (hR : m_fin R) (ho : I 95 23 = nI ko) (hk : ko < 7) (hh : I 95 24 = nI nh) (hnh : nh ≤ 6) (hl : I 95 25 = nI nl) (hnl : nl ≤ 10) (hW : WFk I ko) {l : Nat} (hll : l < nl) (h1 : ¬ f_in (nI l) 0 (nI nl - 1) = 0) (h2 : ¬ f_has le (nI l) = 0) {q : Nat} (hq : q < 6) (hm : I 106 l = nI q) {y : Int32} (h3 : f_in y 0 (nI nh - 1) = 0 ∨ y = nI q) : RUN S (d + 6) YM_does [.ref 95, .int (nI 1), .int (nI l), .int y] (crR I md ls cm ni le sl dn fa id0) J R n (some (.int 0)) (crR I md ls cm ni le sl dn fa id0) J R n := by
  show AW S _ YM_does n n _ 0 [(0, .ref 95), (1, .int (nI 1)), (2, .int (nI l)), (3, .int y)] [] (crR I md ls cm ni le sl dn fa id0) J R n
  refine a_iload_n 1 dM_does_0 rfl rfl ?_
  refine a_iconstN (a := 3) dM_does_1 (by decide) ?_
  refine a_icmp_neN (tgt := 84) dM_does_2 (by decide) (by omega) (by omega) (fun _ => ?_) (fun c => False.elim (by omega))
  refine a_aload_n 0 dM_does_84 rfl rfl ?_
  refine a_iload_n 2 dM_does_85 rfl rfl ?_
  refine a_callV (Q' := m_res (some (.int 1)) (crR I md ls cm ni le sl dn fa id0) J R) (as := [.int (nI l)]) (st := []) dM_does_86 ml12_319 rfl (Nat.le_of_ble_eq_true rfl) ly_95 rfl rfl (by decide) (by omega) (Nat.le_of_ble_eq_true rfl) rfl (Nat.le_refl _) (Nat.le_refl _) (c_M_isLeft1 hn hR ho hk hh hnh hl hnl hW h1 h2) (m_go ?_)
  show AW _ _ _ _ _ _ _ _ [.int 1] _ _ _ _
  refine a_if_eq (tgt := 115) dM_does_89 (by decide) (fun c => False.elim (absurd c (by decide))) (fun _ => ?_)
  refine a_iload_n 1 dM_does_92 rfl rfl ?_
  refine a_iconstN (a := 1) dM_does_93 (by decide) ?_
  refine a_icmp_neN (tgt := 117) dM_does_94 (by decide) (by omega) (by omega) (fun c => False.elim (c rfl)) (fun _ => ?_)
  refine a_aload_n 0 dM_does_97 rfl rfl ?_
  refine a_iload_n 3 dM_does_98 rfl rfl ?_
  refine a_callV (Q' := m_res (some (.int (f_in y 0 (nI nh - 1)))) (crR I md ls cm ni le sl dn fa id0) J R) (as := [.int y]) (st := []) dM_does_99 ml12_322 rfl (Nat.le_of_ble_eq_true rfl) ly_95 rfl rfl (by decide) (by omega) (Nat.le_of_ble_eq_true rfl) rfl (Nat.le_refl _) (Nat.le_refl _) (by have h := c_M_isHouse (S := S) (d := d + 4) (J := J) (R := R) (I := (crR I md ls cm ni le sl dn fa id0)) (h := y) hn; rw [crR_f (by decide), hh] at h; exact h) (m_go ?_)
  show AW _ _ _ _ _ _ _ _ [.int (f_in y 0 (nI nh - 1))] _ _ _ _
  refine a_if_eq (tgt := 115) dM_does_102 (by decide) (fun c102 => ?_) (fun c102 => ?_)
  · refine a_iconstN (a := 0) dM_does_115 (by decide) ?_
    exact a_zret dM_does_116 rfl (by rfl) ⟨rfl, rfl, rfl, rfl⟩
  · refine a_iload_n 3 dM_does_105 rfl rfl ?_
    refine a_aload_n 0 dM_does_106 rfl rfl ?_
    refine a_geta (r := 106) dM_does_107 fl12_41 rfl ly_95 (by omega) (rf_95_26 hR) ?_
    refine a_iload_n 2 dM_does_110 rfl rfl ?_
    refine a_ialdN (a := l) dM_does_111 ly_106 (by omega) (by omega) (by decide) ?_
    rw [show (crR I md ls cm ni le sl dn fa id0) 106 l = (nI q) from hm]
    refine a_icmp_ne (tgt := 117) dM_does_112 (by decide) (fun c112 => ?_) (fun c112 => ?_)
    · exfalso
      rcases h3 with h | h
      · exact c102 h
      · exact c112 h
    · refine a_iconstN (a := 0) dM_does_115 (by decide) ?_
      exact a_zret dM_does_116 rfl (by rfl) ⟨rfl, rfl, rfl, rfl⟩
theorem c_M_does2 {S : Nat × (Nat → Int32)} {d n : Nat} {I : mI} {J : mJ} {R : mR} {md ls cm : Nat → Int32} {ni le sl dn fa id0 : Int32}  {ko nh nl : Nat} (hn : 122 ≤ n) (hR : m_fin R) (ho : I 95 23 = nI ko) (hk : ko < 7) (hh : I 95 24 = nI nh) (hnh : nh ≤ 6) (hl : I 95 25 = nI nl) (hnl : nl ≤ 10) (hW : WFk I ko) {l : Nat} (hll : l < nl) (h1 : ¬ f_in (nI l) 0 (nI nl - 1) = 0) (h2 : ¬ f_has le (nI l) = 0) {q : Nat} (hq : q < 6) (hm : I 106 l = nI q) {y : Int32}  : RUN S (d + 6) YM_does [.ref 95, .int (nI 2), .int (nI l), .int y] (crR I md ls cm ni le sl dn fa id0) J R n (some (.int 1)) (crR I md ls cm ni (le &&& (nI 1 <<< (nI l &&& 31) ^^^ (-1))) sl dn fa id0) J R n := by
  show AW S _ YM_does n n _ 0 [(0, .ref 95), (1, .int (nI 2)), (2, .int (nI l)), (3, .int y)] [] (crR I md ls cm ni le sl dn fa id0) J R n
  refine a_iload_n 1 dM_does_0 rfl rfl ?_
  refine a_iconstN (a := 3) dM_does_1 (by decide) ?_
  refine a_icmp_neN (tgt := 84) dM_does_2 (by decide) (by omega) (by omega) (fun _ => ?_) (fun c => False.elim (by omega))
  refine a_aload_n 0 dM_does_84 rfl rfl ?_
  refine a_iload_n 2 dM_does_85 rfl rfl ?_
  refine a_callV (Q' := m_res (some (.int 1)) (crR I md ls cm ni le sl dn fa id0) J R) (as := [.int (nI l)]) (st := []) dM_does_86 ml12_319 rfl (Nat.le_of_ble_eq_true rfl) ly_95 rfl rfl (by decide) (by omega) (Nat.le_of_ble_eq_true rfl) rfl (Nat.le_refl _) (Nat.le_refl _) (c_M_isLeft1 hn hR ho hk hh hnh hl hnl hW h1 h2) (m_go ?_)
  show AW _ _ _ _ _ _ _ _ [.int 1] _ _ _ _
  refine a_if_eq (tgt := 115) dM_does_89 (by decide) (fun c => False.elim (absurd c (by decide))) (fun _ => ?_)
  refine a_iload_n 1 dM_does_92 rfl rfl ?_
  refine a_iconstN (a := 1) dM_does_93 (by decide) ?_
  refine a_icmp_neN (tgt := 117) dM_does_94 (by decide) (by omega) (by omega) (fun _ => ?_) (fun c => False.elim (by omega))
  refine a_iload_n 1 dM_does_117 rfl rfl ?_
  refine a_iconstN (a := 2) dM_does_118 (by decide) ?_
  refine a_icmp_neN (tgt := 139) dM_does_119 (by decide) (by omega) (by omega) (fun c => False.elim (by omega)) (fun _ => ?_)
  refine a_aload_n 0 dM_does_122 rfl rfl ?_
  refine a_dup dM_does_123 rfl ?_
  refine a_geti dM_does_124 fl12_301 rfl ly_95 (by omega) ?_
  rw [show (crR I md ls cm ni le sl dn fa id0) 95 33 = le from rfl]
  refine a_iconstN (a := 1) dM_does_127 (by decide) ?_
  refine a_iload_n 2 dM_does_128 rfl rfl ?_
  refine a_ishl dM_does_129 ?_
  refine a_iconst (v := -1) dM_does_130 (by decide) ?_
  refine a_ixor dM_does_131 ?_
  refine a_iand dM_does_132 ?_
  refine a_puti dM_does_133 fl12_301 rfl ly_95 (by omega) ?_
  rw [crR_33]
  refine a_goto (tgt := 178) dM_does_136 (by decide) ?_
  refine a_iconstN (a := 1) dM_does_178 (by decide) ?_
  exact a_zret dM_does_179 rfl (by rfl) ⟨rfl, rfl, rfl, rfl⟩
theorem c_M_does0 {S : Nat × (Nat → Int32)} {d n : Nat} {I : mI} {J : mJ} {R : mR} {md ls cm : Nat → Int32} {ni le sl dn fa id0 : Int32}  {ko nh nl : Nat} (hn : 122 ≤ n) (hR : m_fin R) (ho : I 95 23 = nI ko) (hk : ko < 7) (hh : I 95 24 = nI nh) (hnh : nh ≤ 6) (hl : I 95 25 = nI nl) (hnl : nl ≤ 10) (hW : WFk I ko) {l : Nat} (hll : l < nl) (h1 : ¬ f_in (nI l) 0 (nI nl - 1) = 0) (h2 : ¬ f_has le (nI l) = 0) {q : Nat} (hq : q < 6) (hm : I 106 l = nI q) {y : Int32} (hL : WFl ls) : RUN S (d + 6) YM_does [.ref 95, .int (nI 0), .int (nI l), .int y] (crR I md ls cm ni le sl dn fa id0) J R n (some (.int 1)) (crR I (va_up md q (md q + dsR I ko l (ls q))) (va_up ls q (oR I ko (19 + l))) (va_up cm q (cm q + 1)) ni (le &&& (1 <<< (nI l &&& 31) ^^^ -1)) (sl + nI 0) (dn + dsR I ko l (ls q)) (fa ||| (if dsR I ko l (ls q) = bsR I ko l then nI 0 else nI 1 <<< (nI l &&& 31))) (id0 + (if dsR I ko l (ls q) = 0 then nI 1 else nI 0))) J R n := by
  show AW S _ YM_does n n _ 0 [(0, .ref 95), (1, .int (nI 0)), (2, .int (nI l)), (3, .int y)] [] (crR I md ls cm ni le sl dn fa id0) J R n
  refine a_iload_n 1 dM_does_0 rfl rfl ?_
  refine a_iconstN (a := 3) dM_does_1 (by decide) ?_
  refine a_icmp_neN (tgt := 84) dM_does_2 (by decide) (by omega) (by omega) (fun _ => ?_) (fun c => False.elim (by omega))
  refine a_aload_n 0 dM_does_84 rfl rfl ?_
  refine a_iload_n 2 dM_does_85 rfl rfl ?_
  refine a_callV (Q' := m_res (some (.int 1)) (crR I md ls cm ni le sl dn fa id0) J R) (as := [.int (nI l)]) (st := []) dM_does_86 ml12_319 rfl (Nat.le_of_ble_eq_true rfl) ly_95 rfl rfl (by decide) (by omega) (Nat.le_of_ble_eq_true rfl) rfl (Nat.le_refl _) (Nat.le_refl _) (c_M_isLeft1 hn hR ho hk hh hnh hl hnl hW h1 h2) (m_go ?_)
  show AW _ _ _ _ _ _ _ _ [.int 1] _ _ _ _
  refine a_if_eq (tgt := 115) dM_does_89 (by decide) (fun c => False.elim (absurd c (by decide))) (fun _ => ?_)
  refine a_iload_n 1 dM_does_92 rfl rfl ?_
  refine a_iconstN (a := 1) dM_does_93 (by decide) ?_
  refine a_icmp_neN (tgt := 117) dM_does_94 (by decide) (by omega) (by omega) (fun _ => ?_) (fun c => False.elim (by omega))
  refine a_iload_n 1 dM_does_117 rfl rfl ?_
  refine a_iconstN (a := 2) dM_does_118 (by decide) ?_
  refine a_icmp_neN (tgt := 139) dM_does_119 (by decide) (by omega) (by omega) (fun _ => ?_) (fun c => False.elim (by omega))
  refine a_aload_n 0 dM_does_139 rfl rfl ?_
  refine a_iload_n 2 dM_does_140 rfl rfl ?_
  refine a_iload_n 1 dM_does_141 rfl rfl ?_
  refine a_iconstN (a := 1) dM_does_142 (by decide) ?_
  refine a_icmp_neN (tgt := 150) dM_does_143 (by decide) (by omega) (by omega) (fun _ => ?_) (fun c => False.elim (by omega))
  refine a_aload_n 0 dM_does_150 rfl rfl ?_
  refine a_geta (r := 106) dM_does_151 fl12_41 rfl ly_95 (by omega) (rf_95_26 hR) ?_
  refine a_iload_n 2 dM_does_154 rfl rfl ?_
  refine a_ialdN (a := l) dM_does_155 ly_106 (by omega) (by omega) (by decide) ?_
  rw [show (crR I md ls cm ni le sl dn fa id0) 106 l = (nI q) from hm]
  refine a_callV (Q' := m_res none (crR I (va_up md q (md q + (dsR I ko l (ls q)))) (va_up ls q (oR I ko (19 + l))) (va_up cm q (cm q + 1)) ni (le &&& (1 <<< (nI l &&& 31) ^^^ -1)) sl (dn + (dsR I ko l (ls q))) (fa ||| (if (dsR I ko l (ls q)) = bsR I ko l then nI 0 else nI 1 <<< (nI l &&& 31))) (id0 + (if (dsR I ko l (ls q)) = 0 then nI 1 else nI 0))) J R) (as := [.int (nI l), .int (nI q)]) (st := []) dM_does_156 ml12_325 rfl (Nat.le_of_ble_eq_true rfl) ly_95 rfl rfl (by decide) (by omega) (Nat.le_of_ble_eq_true rfl) rfl (Nat.le_refl _) (Nat.le_refl _) (c_M_given hn hR ho hk hh hnh hl hnl hW (by omega) (by omega) (hL q hq)) (m_go ?_)
  show AW _ _ _ _ _ _ _ _ [] _ _ _ _
  refine a_aload_n 0 dM_does_159 rfl rfl ?_
  refine a_dup dM_does_160 rfl ?_
  refine a_geti dM_does_161 fl12_304 rfl ly_95 (by omega) ?_
  rw [show (crR I (va_up md q (md q + (dsR I ko l (ls q)))) (va_up ls q (oR I ko (19 + l))) (va_up cm q (cm q + 1)) ni (le &&& (1 <<< (nI l &&& 31) ^^^ -1)) sl (dn + (dsR I ko l (ls q))) (fa ||| (if (dsR I ko l (ls q)) = bsR I ko l then nI 0 else nI 1 <<< (nI l &&& 31))) (id0 + (if (dsR I ko l (ls q)) = 0 then nI 1 else nI 0))) 95 34 = sl from rfl]
  refine a_iload_n 1 dM_does_164 rfl rfl ?_
  refine a_iconstN (a := 1) dM_does_165 (by decide) ?_
  refine a_icmp_neN (tgt := 173) dM_does_166 (by decide) (by omega) (by omega) (fun _ => ?_) (fun c => False.elim (by omega))
  refine a_iconstN (a := 0) dM_does_173 (by decide) ?_
  refine a_iadd dM_does_174 ?_
  refine a_puti dM_does_175 fl12_304 rfl ly_95 (by omega) ?_
  rw [crR_34]
  refine a_iconstN (a := 1) dM_does_178 (by decide) ?_
  exact a_zret dM_does_179 rfl (by rfl) ⟨rfl, rfl, rfl, rfl⟩
theorem c_M_does1 {S : Nat × (Nat → Int32)} {d n : Nat} {I : mI} {J : mJ} {R : mR} {md ls cm : Nat → Int32} {ni le sl dn fa id0 : Int32}  {ko nh nl : Nat} (hn : 122 ≤ n) (hR : m_fin R) (ho : I 95 23 = nI ko) (hk : ko < 7) (hh : I 95 24 = nI nh) (hnh : nh ≤ 6) (hl : I 95 25 = nI nl) (hnl : nl ≤ 10) (hW : WFk I ko) {l : Nat} (hll : l < nl) (h1 : ¬ f_in (nI l) 0 (nI nl - 1) = 0) (h2 : ¬ f_has le (nI l) = 0) {q : Nat} (hq : q < 6) (hm : I 106 l = nI q) {h : Nat} (hh6 : h < 6) (h3 : ¬ f_in (nI h) 0 (nI nh - 1) = 0) (h4 : h ≠ q) (hL : WFl ls) : RUN S (d + 6) YM_does [.ref 95, .int (nI 1), .int (nI l), .int (nI h)] (crR I md ls cm ni le sl dn fa id0) J R n (some (.int 1)) (crR I (va_up md h (md h + dsR I ko l (ls h))) (va_up ls h (oR I ko (19 + l))) (va_up cm h (cm h + 1)) ni (le &&& (1 <<< (nI l &&& 31) ^^^ -1)) (sl + nI 1) (dn + dsR I ko l (ls h)) (fa ||| (if dsR I ko l (ls h) = bsR I ko l then nI 0 else nI 1 <<< (nI l &&& 31))) (id0 + (if dsR I ko l (ls h) = 0 then nI 1 else nI 0))) J R n := by
  show AW S _ YM_does n n _ 0 [(0, .ref 95), (1, .int (nI 1)), (2, .int (nI l)), (3, .int (nI h))] [] (crR I md ls cm ni le sl dn fa id0) J R n
  refine a_iload_n 1 dM_does_0 rfl rfl ?_
  refine a_iconstN (a := 3) dM_does_1 (by decide) ?_
  refine a_icmp_neN (tgt := 84) dM_does_2 (by decide) (by omega) (by omega) (fun _ => ?_) (fun c => False.elim (by omega))
  refine a_aload_n 0 dM_does_84 rfl rfl ?_
  refine a_iload_n 2 dM_does_85 rfl rfl ?_
  refine a_callV (Q' := m_res (some (.int 1)) (crR I md ls cm ni le sl dn fa id0) J R) (as := [.int (nI l)]) (st := []) dM_does_86 ml12_319 rfl (Nat.le_of_ble_eq_true rfl) ly_95 rfl rfl (by decide) (by omega) (Nat.le_of_ble_eq_true rfl) rfl (Nat.le_refl _) (Nat.le_refl _) (c_M_isLeft1 hn hR ho hk hh hnh hl hnl hW h1 h2) (m_go ?_)
  show AW _ _ _ _ _ _ _ _ [.int 1] _ _ _ _
  refine a_if_eq (tgt := 115) dM_does_89 (by decide) (fun c => False.elim (absurd c (by decide))) (fun _ => ?_)
  refine a_iload_n 1 dM_does_92 rfl rfl ?_
  refine a_iconstN (a := 1) dM_does_93 (by decide) ?_
  refine a_icmp_neN (tgt := 117) dM_does_94 (by decide) (by omega) (by omega) (fun c => False.elim (c rfl)) (fun _ => ?_)
  refine a_aload_n 0 dM_does_97 rfl rfl ?_
  refine a_iload_n 3 dM_does_98 rfl rfl ?_
  refine a_callV (Q' := m_res (some (.int (f_in (nI h) 0 (nI nh - 1)))) (crR I md ls cm ni le sl dn fa id0) J R) (as := [.int (nI h)]) (st := []) dM_does_99 ml12_322 rfl (Nat.le_of_ble_eq_true rfl) ly_95 rfl rfl (by decide) (by omega) (Nat.le_of_ble_eq_true rfl) rfl (Nat.le_refl _) (Nat.le_refl _) (by have h := c_M_isHouse (S := S) (d := d + 4) (J := J) (R := R) (I := (crR I md ls cm ni le sl dn fa id0)) (h := (nI h)) hn; rw [crR_f (by decide), hh] at h; exact h) (m_go ?_)
  show AW _ _ _ _ _ _ _ _ [.int (f_in (nI h) 0 (nI nh - 1))] _ _ _ _
  refine a_if_eq (tgt := 115) dM_does_102 (by decide) (fun c => False.elim (h3 c)) (fun _ => ?_)
  refine a_iload_n 3 dM_does_105 rfl rfl ?_
  refine a_aload_n 0 dM_does_106 rfl rfl ?_
  refine a_geta (r := 106) dM_does_107 fl12_41 rfl ly_95 (by omega) (rf_95_26 hR) ?_
  refine a_iload_n 2 dM_does_110 rfl rfl ?_
  refine a_ialdN (a := l) dM_does_111 ly_106 (by omega) (by omega) (by decide) ?_
  rw [show (crR I md ls cm ni le sl dn fa id0) 106 l = (nI q) from hm]
  refine a_icmp_neN (tgt := 117) dM_does_112 (by decide) (by omega) (by omega) (fun _ => ?_) (fun c => False.elim (h4 c))
  refine a_iload_n 1 dM_does_117 rfl rfl ?_
  refine a_iconstN (a := 2) dM_does_118 (by decide) ?_
  refine a_icmp_neN (tgt := 139) dM_does_119 (by decide) (by omega) (by omega) (fun _ => ?_) (fun c => False.elim (by omega))
  refine a_aload_n 0 dM_does_139 rfl rfl ?_
  refine a_iload_n 2 dM_does_140 rfl rfl ?_
  refine a_iload_n 1 dM_does_141 rfl rfl ?_
  refine a_iconstN (a := 1) dM_does_142 (by decide) ?_
  refine a_icmp_neN (tgt := 150) dM_does_143 (by decide) (by omega) (by omega) (fun c => False.elim (c rfl)) (fun _ => ?_)
  refine a_iload_n 3 dM_does_146 rfl rfl ?_
  refine a_goto (tgt := 156) dM_does_147 (by decide) ?_
  refine a_callV (Q' := m_res none (crR I (va_up md h (md h + (dsR I ko l (ls h)))) (va_up ls h (oR I ko (19 + l))) (va_up cm h (cm h + 1)) ni (le &&& (1 <<< (nI l &&& 31) ^^^ -1)) sl (dn + (dsR I ko l (ls h))) (fa ||| (if (dsR I ko l (ls h)) = bsR I ko l then nI 0 else nI 1 <<< (nI l &&& 31))) (id0 + (if (dsR I ko l (ls h)) = 0 then nI 1 else nI 0))) J R) (as := [.int (nI l), .int (nI h)]) (st := []) dM_does_156 ml12_325 rfl (Nat.le_of_ble_eq_true rfl) ly_95 rfl rfl (by decide) (by omega) (Nat.le_of_ble_eq_true rfl) rfl (Nat.le_refl _) (Nat.le_refl _) (c_M_given hn hR ho hk hh hnh hl hnl hW (by omega) (by omega) (hL h hh6)) (m_go ?_)
  show AW _ _ _ _ _ _ _ _ [] _ _ _ _
  refine a_aload_n 0 dM_does_159 rfl rfl ?_
  refine a_dup dM_does_160 rfl ?_
  refine a_geti dM_does_161 fl12_304 rfl ly_95 (by omega) ?_
  rw [show (crR I (va_up md h (md h + (dsR I ko l (ls h)))) (va_up ls h (oR I ko (19 + l))) (va_up cm h (cm h + 1)) ni (le &&& (1 <<< (nI l &&& 31) ^^^ -1)) sl (dn + (dsR I ko l (ls h))) (fa ||| (if (dsR I ko l (ls h)) = bsR I ko l then nI 0 else nI 1 <<< (nI l &&& 31))) (id0 + (if (dsR I ko l (ls h)) = 0 then nI 1 else nI 0))) 95 34 = sl from rfl]
  refine a_iload_n 1 dM_does_164 rfl rfl ?_
  refine a_iconstN (a := 1) dM_does_165 (by decide) ?_
  refine a_icmp_neN (tgt := 173) dM_does_166 (by decide) (by omega) (by omega) (fun c => False.elim (c rfl)) (fun _ => ?_)
  refine a_iconstN (a := 1) dM_does_169 (by decide) ?_
  refine a_goto (tgt := 174) dM_does_170 (by decide) ?_
  refine a_iadd dM_does_174 ?_
  refine a_puti dM_does_175 fl12_304 rfl ly_95 (by omega) ?_
  rw [crR_34]
  refine a_iconstN (a := 1) dM_does_178 (by decide) ?_
  exact a_zret dM_does_179 rfl (by rfl) ⟨rfl, rfl, rfl, rfl⟩
section DoF
variable {nh nl : Nat} {hm : Nat → Int32} {ds : Nat → Int32 → Int32} {bs kd : Nat → Int32} {H : Nat} {s : cS} {u : Nat} {l h : Int32}
theorem doF_3 : doF nh nl hm ds bs kd H s 3 l h = some (ntS H s) := by simp [doF]
theorem doF_n (h3 : ¬ u = 3) (h0 : f_in l 0 (nI nl - 1) = 0 ∨ f_has s.2.2.2.2.1 l = 0) : doF nh nl hm ds bs kd H s u l h = none := by
  unfold doF; rw [if_neg h3, if_pos h0]
theorem doF_0 (h1 : ¬ f_in l 0 (nI nl - 1) = 0) (h2 : ¬ f_has s.2.2.2.2.1 l = 0) : doF nh nl hm ds bs kd H s 0 l h = some (slS (gvS ds bs kd s l.toNatClampNeg (hm l.toNatClampNeg).toNatClampNeg) 0) := by simp [doF, h1, h2]
theorem doF_1n (h1 : ¬ f_in l 0 (nI nl - 1) = 0) (h2 : ¬ f_has s.2.2.2.2.1 l = 0) (h3 : f_in h 0 (nI nh - 1) = 0 ∨ h = hm l.toNatClampNeg) : doF nh nl hm ds bs kd H s 1 l h = none := by simp [doF, h1, h2, h3]
theorem doF_1 (h1 : ¬ f_in l 0 (nI nl - 1) = 0) (h2 : ¬ f_has s.2.2.2.2.1 l = 0) (h3 : ¬ f_in h 0 (nI nh - 1) = 0) (h4 : ¬ h = hm l.toNatClampNeg) : doF nh nl hm ds bs kd H s 1 l h = some (slS (gvS ds bs kd s l.toNatClampNeg h.toNatClampNeg) 1) := by simp [doF, h1, h2, h3, h4]
theorem doF_2 (h1 : ¬ f_in l 0 (nI nl - 1) = 0) (h2 : ¬ f_has s.2.2.2.2.1 l = 0) : doF nh nl hm ds bs kd H s 2 l h = some (buS s l.toNatClampNeg) := by simp [doF, h1, h2]
end DoF
theorem c_M_doesG {S : Nat × (Nat → Int32)} {d n : Nat} {I : mI} {J : mJ} {R : mR} {s : cS} {ko nh nl : Nat} (hn : 122 ≤ n) (hR : m_fin R) (ho : I 95 23 = nI ko) (hk : ko < 7) (hh : I 95 24 = nI nh) (hnh : nh ≤ 6) (hl : I 95 25 = nI nl) (hnl : nl ≤ 10) (hW : WFk I ko) {u : Nat} {x y : Int32} (hu : u < 4) (hH : WFh (I 106) nl) (hL : WFl s.2.1) : RUN S (d + 6) YM_does [.ref 95, .int (nI u), .int x, .int y] (crT I s) J R n (some (.int (if doF nh nl (I 106) (dsR I ko) (bsR I ko) (fun l => oR I ko (19 + l)) 6 s u x y = none then 0 else 1))) (crT I ((doF nh nl (I 106) (dsR I ko) (bsR I ko) (fun l => oR I ko (19 + l)) 6 s u x y).getD s)) J R n := by
  by_cases h3 : u = 3
  · subst h3
    rw [doF_3]
    exact c_M_does3 hn hR
  by_cases h0 : f_in x 0 (nI nl - 1) = 0 ∨ f_has s.2.2.2.2.1 x = 0
  · rw [doF_n h3 h0]
    exact c_M_doesN hn hR ho hk hh hnh hl hnl hW (by omega) h0
  have h1 : ¬ f_in x 0 (nI nl - 1) = 0 := fun c => h0 (Or.inl c)
  have h2 : ¬ f_has s.2.2.2.2.1 x = 0 := fun c => h0 (Or.inr c)
  obtain ⟨l, hll, rfl⟩ := f_in_nz (by omega) h1
  obtain ⟨q, hq, hm⟩ := hH l hll
  rcases (show u = 0 ∨ u = 1 ∨ u = 2 by omega) with rfl | rfl | rfl
  · rw [doF_0 h1 h2, nI_clamp (by omega), hm, nI_clamp (by omega)]
    exact c_M_does0 hn hR ho hk hh hnh hl hnl hW hll h1 h2 hq hm hL
  · by_cases h4 : f_in y 0 (nI nh - 1) = 0 ∨ y = nI q
    · rw [doF_1n h1 h2 (by rw [nI_clamp (by omega), hm]; exact h4)]
      exact c_M_does1n hn hR ho hk hh hnh hl hnl hW hll h1 h2 hq hm h4
    · have h5 : ¬ f_in y 0 (nI nh - 1) = 0 := fun c => h4 (Or.inl c)
      obtain ⟨h, hhh, rfl⟩ := f_in_nz (by omega) h5
      rw [doF_1 h1 h2 h5 (by rw [nI_clamp (by omega), hm]; exact fun c => h4 (Or.inr c)), nI_clamp (by omega), nI_clamp (by omega)]
      exact c_M_does1 hn hR ho hk hh hnh hl hnl hW hll h1 h2 hq hm (by omega) h5 (fun c => h4 (Or.inr (by rw [c]))) hL
  · rw [doF_2 h1 h2, nI_clamp (by omega)]
    exact c_M_does2 hn hR ho hk hh hnh hl hnl hW hll h1 h2 hq hm
