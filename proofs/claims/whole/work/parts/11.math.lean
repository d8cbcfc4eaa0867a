section MX
variable {S : Nat × (Nat → Int32)} {d : Nat} {Y : mY} {n0 nf : Nat} {Q : Option Value → mI → mJ → mR → Prop} {pc idx : Nat} {lv lv' : List (Nat × Value)} {st stk : List Value} {I : mI} {J : mJ} {R : mR} {n : Nat}
theorem a_max {x y : Int32} (hd : decode Y.2.1 pc = .ok (.invokestatic idx, 3)) (hm : Cond.methodLink Y.1.cls idx ⟨"java/lang/Math", "max", "(II)I"⟩ ∈ m_gd) (hst : (st.map fun v => v.category).sum ≤ 8) (hnf : n ≤ nf) (kk : AW S (d + 1) Y n0 nf Q (pc + 3) lv (.int (if x < y then y else x) :: st) I J R n) : AW S (d + 1) Y n0 nf Q pc lv (.int y :: .int x :: st) I J R n := by
  intro p l e s m args below meth c b X D cA hF H locs lsr hN
  have hts := hF.2.2.2.2.2.2.2.1
  have a2 := m_sl_mono hnf
  refine va_mmax hF.1 hF.2.1 (by rw [hF.2.2.2.2.1]; exact hN.2.2.1.1.symm) hF.2.2.2.2.2.1 (hts _ hm) (hts _ (m_in (i := 511) (by decide +kernel) rfl)) (hts _ (m_in (i := 14) (by decide +kernel) rfl)) (hts _ (m_in (i := 512) (by decide +kernel) rfl)) (Nat.le_add_left 1 d) ?_ ?_ ?_ hd (kk p l e s m args below meth c b X D cA hF H locs lsr hN)
  · rw [m_cats]
    show _ ≤ 64 * (d + 1)
    omega
  · show n - n0 ≤ nf - n0
    omega
  · show m_sl n - m_sl n0 ≤ m_sl nf - m_sl n0
    omega
theorem a_min {x y : Int32} (hd : decode Y.2.1 pc = .ok (.invokestatic idx, 3)) (hm : Cond.methodLink Y.1.cls idx ⟨"java/lang/Math", "min", "(II)I"⟩ ∈ m_gd) (hst : (st.map fun v => v.category).sum ≤ 8) (hnf : n ≤ nf) (kk : AW S (d + 1) Y n0 nf Q (pc + 3) lv (.int (if y < x then y else x) :: st) I J R n) : AW S (d + 1) Y n0 nf Q pc lv (.int y :: .int x :: st) I J R n := by
  intro p l e s m args below meth c b X D cA hF H locs lsr hN
  have hts := hF.2.2.2.2.2.2.2.1
  have a2 := m_sl_mono hnf
  refine va_mmin hF.1 hF.2.1 (by rw [hF.2.2.2.2.1]; exact hN.2.2.1.1.symm) hF.2.2.2.2.2.1 (hts _ hm) (hts _ (m_in (i := 508) (by decide +kernel) rfl)) (hts _ (m_in (i := 14) (by decide +kernel) rfl)) (hts _ (m_in (i := 509) (by decide +kernel) rfl)) (Nat.le_add_left 1 d) ?_ ?_ ?_ hd (kk p l e s m args below meth c b X D cA hF H locs lsr hN)
  · rw [m_cats]
    show _ ≤ 64 * (d + 1)
    omega
  · show n - n0 ≤ nf - n0
    omega
  · show m_sl n - m_sl n0 ≤ m_sl nf - m_sl n0
    omega
theorem a_abs {x : Int32} (hd : decode Y.2.1 pc = .ok (.invokestatic idx, 3)) (hm : Cond.methodLink Y.1.cls idx ⟨"java/lang/Math", "abs", "(I)I"⟩ ∈ m_gd) (hst : (st.map fun v => v.category).sum ≤ 8) (hnf : n ≤ nf) (kk : AW S (d + 1) Y n0 nf Q (pc + 3) lv (.int (if 0 ≤ x then x else 0 - x) :: st) I J R n) : AW S (d + 1) Y n0 nf Q pc lv (.int x :: st) I J R n := by
  intro p l e s m args below meth c b X D cA hF H locs lsr hN
  have hts := hF.2.2.2.2.2.2.2.1
  have a2 := m_sl_mono hnf
  refine va_mabs hF.1 hF.2.1 (by rw [hF.2.2.2.2.1]; exact hN.2.2.1.1.symm) hF.2.2.2.2.2.1 (hts _ hm) (hts _ (m_in (i := 1083) (by decide +kernel) rfl)) (hts _ (m_in (i := 14) (by decide +kernel) rfl)) (hts _ (m_in (i := 1084) (by decide +kernel) rfl)) (Nat.le_add_left 1 d) ?_ ?_ ?_ hd (kk p l e s m args below meth c b X D cA hF H locs lsr hN)
  · rw [m_cats]
    show _ ≤ 64 * (d + 1)
    omega
  · show n - n0 ≤ nf - n0
    omega
  · show m_sl n - m_sl n0 ≤ m_sl nf - m_sl n0
    omega
theorem a_absl {x : Int64} (hd : decode Y.2.1 pc = .ok (.invokestatic idx, 3)) (hm : Cond.methodLink Y.1.cls idx ⟨"java/lang/Math", "abs", "(J)J"⟩ ∈ m_gd) (hst : (st.map fun v => v.category).sum ≤ 8) (hnf : n ≤ nf) (kk : AW S (d + 1) Y n0 nf Q (pc + 3) lv (.long (if 0 < x then x else -x) :: st) I J R n) : AW S (d + 1) Y n0 nf Q pc lv (.long x :: st) I J R n := by
  intro p l e s m args below meth c b X D cA hF H locs lsr hN
  have hts := hF.2.2.2.2.2.2.2.1
  have a2 := m_sl_mono hnf
  refine va_mabs_long hF.1 hF.2.1 (by rw [hF.2.2.2.2.1]; exact hN.2.2.1.1.symm) hF.2.2.2.2.2.1 (hts _ hm) (hts _ (m_in (i := 874) (by decide +kernel) rfl)) (hts _ (m_in (i := 14) (by decide +kernel) rfl)) (hts _ (m_in (i := 875) (by decide +kernel) rfl)) (Nat.le_add_left 1 d) ?_ ?_ ?_ hd (kk p l e s m args below meth c b X D cA hF H locs lsr hN)
  · rw [m_cats]
    show _ ≤ 64 * (d + 1)
    omega
  · show n - n0 ≤ nf - n0
    omega
  · show m_sl n - m_sl n0 ≤ m_sl nf - m_sl n0
    omega
end MX
/-- a method's end: exactly this -/
def m_res (v0 : Option Value) (I0 : mI) (J0 : mJ) (R0 : mR) : Option Value → mI → mJ → mR → Prop := fun v I J R => v = v0 ∧ I = I0 ∧ J = J0 ∧ R = R0
/-- method Y, called with as in a memory, answers v and leaves that memory -/
abbrev RUN (S : Nat × (Nat → Int32)) (d : Nat) (Y : mY) (as : List Value) (I : mI) (J : mJ) (R : mR) (n : Nat) (v : Option Value) (I' : mI) (J' : mJ) (R' : mR) (n' : Nat) : Prop := AW S d Y n n' (m_res v I' J' R') 0 (lv_args 0 as) [] I J R n
theorem m_go {P : Option Value → mI → mJ → mR → Prop} {v0 : Option Value} {I0 : mI} {J0 : mJ} {R0 : mR} (h : P v0 I0 J0 R0) : ∀ (v : Option Value) (I : mI) (J : mJ) (R : mR), m_res v0 I0 J0 R0 v I J R → P v I J R := by
  intro v I J R hq
  obtain ⟨rfl, rfl, rfl, rfl⟩ := hq
  exact h
