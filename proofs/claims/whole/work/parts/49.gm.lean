theorem va_uu {α : Type} {f : Nat → α} {a : Nat} {x y : α} : va_up (va_up f a x) a y = va_up f a y := by
  funext j; unfold va_up; by_cases h : j = a <;> simp [h]
theorem va_uc {α : Type} {f : Nat → α} {a b : Nat} {x y : α} (h : a ≠ b) : va_up (va_up f b y) a x = va_up (va_up f a x) b y := by
  funext j; unfold va_up; by_cases h1 : j = a <;> by_cases h2 : j = b
  · exact absurd (h1.symm.trans h2) h
  · simp [h1, h]
  · simp [h2, Ne.symm h]
  · simp [h1, h2]
theorem va_ui {f : Nat → Int32} {a : Nat} : va_up f a (f a) = f := by
  funext j; unfold va_up; by_cases h : j = a <;> simp [h]
theorem m_row_c {α : Type} {I : Nat → Nat → α} {a b : Nat} {f g : Nat → α} (h : a ≠ b) : m_row (m_row I a f) b g = m_row (m_row I b g) a f := by
  funext i; unfold m_row; by_cases h1 : i = a <;> by_cases h2 : i = b
  · exact absurd (h1.symm.trans h2) h
  · simp [h1, h]
  · simp [h2, Ne.symm h]
  · simp [h1, h2]
/-- cells that no office, week or log has -/
def m_scr : List Nat := [1, 2, 3, 40, 57, 58, 59, 60, 61, 62, 63, 64, 65, 66, 67, 68, 69, 70, 80, 81, 82, 83, 84, 85, 86, 87, 88, 89, 90, 91, 92, 93, 94, 95, 96, 97, 98, 99, 100, 101, 102, 103, 104, 105, 106, 107, 108, 109, 110, 111, 112, 113, 114, 115, 116, 117, 118, 119, 120, 121]
theorem oc_ne {o k c : Nat} (ho : o ∈ m_offs) (hk : k < 9) (hc : c ∈ m_scr) : o + k ≠ c := (show ∀ o ∈ m_offs, ∀ k, k < 9 → ∀ c ∈ m_scr, o + k ≠ c by decide +kernel) o ho k hk c hc
theorem oc_ne0 {o c : Nat} (ho : o ∈ m_offs) (hc : c ∈ m_scr) : o ≠ c := oc_ne (k := 0) ho (by decide) hc
theorem wc_ne {o k c : Nat} (ho : o ∈ m_wks) (hk : k < 4) (hc : c ∈ m_scr) : o + k ≠ c := (show ∀ o ∈ m_wks, ∀ k, k < 4 → ∀ c ∈ m_scr, o + k ≠ c by decide +kernel) o ho k hk c hc
theorem wc_ne0 {o c : Nat} (ho : o ∈ m_wks) (hc : c ∈ m_scr) : o ≠ c := wc_ne (k := 0) ho (by decide) hc
theorem gc_ne {o k c : Nat} (ho : o ∈ m_lgs) (hk : k < 3) (hc : c ∈ m_scr) : o + k ≠ c := (show ∀ o ∈ m_lgs, ∀ k, k < 3 → ∀ c ∈ m_scr, o + k ≠ c by decide +kernel) o ho k hk c hc
theorem gc_ne0 {o c : Nat} (ho : o ∈ m_lgs) (hc : c ∈ m_scr) : o ≠ c := gc_ne (k := 0) ho (by decide) hc
