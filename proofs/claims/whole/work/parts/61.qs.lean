/-- what a query leaves as it was: what is told, on either side; and the best of no letters -/
def KP (I I' : mI) : Prop := (∀ a, (a < 40 ∨ (96 ≤ a ∧ a ≤ 103) ∨ 121 ≤ a) → I' a = I a) ∧ ∀ j, j < 5 → I' 68 j = I 68 j
theorem KP.refl {I : mI} : KP I I := ⟨fun _ _ => rfl, fun _ _ => rfl⟩
theorem KP.trans {I I' I2 : mI} (h : KP I I') (h2 : KP I' I2) : KP I I2 := ⟨fun a ha => (h2.1 a ha).trans (h.1 a ha), fun j hj => (h2.2 j hj).trans (h.2 j hj)⟩
theorem KP.row {I I' : mI} {a : Nat} {f : Nat → Int32} (h : KP I I') (ha : (40 ≤ a ∧ a ≤ 67) ∨ (69 ≤ a ∧ a ≤ 95) ∨ (104 ≤ a ∧ a ≤ 120)) : KP I (m_row I' a f) := ⟨fun b hb => by
  rw [m_row_ne (show b ≠ a by omega)]; exact h.1 b hb, fun j hj => by rw [m_row_ne (show 68 ≠ a by omega)]; exact h.2 j hj⟩
theorem KP.r68 {I I' : mI} {f : Nat → Int32} (h : KP I I') (hf : ∀ j, j < 5 → f j = I 68 j) : KP I (m_row I' 68 f) := ⟨fun b hb => by
  rw [m_row_ne (show b ≠ 68 by omega)]; exact h.1 b hb, fun j hj => by rw [m_row_eq]; exact hf j hj⟩
theorem KP.up {I I' : mI} {a k : Nat} {x : Int32} (h : KP I I') (ha : (40 ≤ a ∧ a ≤ 67) ∨ (69 ≤ a ∧ a ≤ 95) ∨ (104 ≤ a ∧ a ≤ 120)) : KP I (m_up I' a k x) := by rw [m_up_row]; exact h.row ha
theorem KP.of {I I' I2 : mI} (h : KP I I') (h2 : ∀ a, (a < 40 ∨ (96 ≤ a ∧ a ≤ 103) ∨ 121 ≤ a ∨ a = 68) → I2 a = I' a) : KP I I2 := ⟨fun b hb => by rw [h2 b (by omega)]; exact h.1 b hb, fun j hj => by rw [h2 68 (by omega)]; exact h.2 j hj⟩
theorem KP.c60 {I I' : mI} {md ls cm : Nat → Int32} {ni le sl dn fa id0 gr lo : Int32} (h : KP I I') : KP I (cr60 I' md ls cm ni le sl dn fa id0 gr lo) := h.of (fun b hb => cr60_o (by omega) (by omega) (by omega) (by omega))
theorem KP.c88 {I I' : mI} {md ls cm : Nat → Int32} {ni le sl dn fa id0 gr lo : Int32} (h : KP I I') : KP I (cr88 I' md ls cm ni le sl dn fa id0 gr lo) := h.of (fun b hb => cr88_o (by omega) (by omega) (by omega) (by omega))
theorem KP.cR {I I' : mI} {md ls cm : Nat → Int32} {ni le sl dn fa id0 : Int32} (h : KP I I') : KP I (crR I' md ls cm ni le sl dn fa id0) := h.of (fun b hb => crR_o (by omega) (by omega) (by omega) (by omega))
theorem KP.hd {I I' : mI} {ko : Nat} (h : KP I I') : KP I (hdI I' ko) := h.of (fun b hb => hd_o (by omega) (by omega) (by omega) (by omega) (by omega))
theorem KP.kr {I I' I2 : mI} (h : KP I I') (h2 : KR I' I2) : KP I I2 := h.of (fun b hb => h2 b (by omega))
theorem KR.kp {I I' : mI} (h2 : KR I I') : KP I I' := KP.refl.kr h2
/-- the references that stay -/
def KF (R R' : mR) : Prop := m_fin R' ∧ ∀ a, (a < 40 ∨ 122 ≤ a) → R' a = R a
theorem KF.refl {R : mR} (h : m_fin R) : KF R R := ⟨h, fun _ _ => rfl⟩
theorem KF.trans {R R' R2 : mR} (h : KF R R') (h2 : KF R' R2) : KF R R2 := ⟨h2.1, fun a ha => (h2.2 a ha).trans (h.2 a ha)⟩
theorem KF.up60 {R R' : mR} {r : Option Nat} (h : KF R R') : KF R (m_up R' 60 0 r) := ⟨m_fin_up h.1 (by decide +kernel), fun a ha => by rw [m_up_ne (show a ≠ 60 by omega)]; exact h.2 a ha⟩
theorem KF.up88 {R R' : mR} {r : Option Nat} (h : KF R R') : KF R (m_up R' 88 0 r) := ⟨m_fin_up h.1 (by decide +kernel), fun a ha => by rw [m_up_ne (show a ≠ 88 by omega)]; exact h.2 a ha⟩
theorem KF.up81 {R R' : mR} {r : Option Nat} (h : KF R R') : KF R (m_up R' 81 3 r) := ⟨m_fin_up h.1 (by decide +kernel), fun a ha => by rw [m_up_ne (show a ≠ 81 by omega)]; exact h.2 a ha⟩
theorem KF.up92 {R R' : mR} {r : Option Nat} (h : KF R R') : KF R (m_up R' 92 2 r) := ⟨m_fin_up h.1 (by decide +kernel), fun a ha => by rw [m_up_ne (show a ≠ 92 by omega)]; exact h.2 a ha⟩
theorem KF.up40 {R R' : mR} {r : Option Nat} (h : KF R R') : KF R (m_up R' 40 5 r) := ⟨m_fin_up h.1 (by decide +kernel), fun a ha => by rw [m_up_ne (show a ≠ 40 by omega)]; exact h.2 a ha⟩
/-- a query's end: its answer, and what is told as it was -/
def qV (I : mI) (R : mR) (v : Value) : Option Value → mI → mJ → mR → Prop := fun w I' _ R' => w = some v ∧ KP I I' ∧ KF R R' 
