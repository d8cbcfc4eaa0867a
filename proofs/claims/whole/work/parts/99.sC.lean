def OD (A : mI) (o : Nat) (D : Nat → Int32) (nl nw : Nat) : Prop := (nl ≤ 10) ∧ (nw ≤ 8) ∧ (A o 0 = D 0) ∧ (A o 1 = nI nl) ∧ (D 1 = nI nl) ∧ (A o 2 = nI nw) ∧ (D 2 = nI nw) ∧ (∀ h, h < 6 → A (o + 1) h = D (3 + h)) ∧ (∀ l, l < nl → A (o + 2) l = D (9 + l)) ∧ (∀ l, l < nl → A (o + 3) l = D (19 + l)) ∧ (∀ l, l < nl → A (o + 4) l = D (29 + l)) ∧ (∀ l, l < nl → ∃ k, k < 4 ∧ D (19 + l) = nI k ∧ A (o + 5) l = plV k (D (29 + l))) ∧ (∀ l, l < 10 → A (o + 6) l = D (39 + l)) ∧ (∀ l, l < 10 → A (o + 7) l = D (49 + l)) ∧ (∀ j, j < 16 → A (o + 8) j = D (59 + j))
theorem OD.mk {A : mI} {o : Nat} {D : Nat → Int32} {nl nw : Nat} (l10_9 : nl ≤ 10) (w8_9 : nw ≤ 8) (h0_9 : A o 0 = D 0) (a1_9 : A o 1 = nI nl) (d1_9 : D 1 = nI nl) (a2_9 : A o 2 = nI nw) (d2_9 : D 2 = nI nw) (mo_9 : ∀ h, h < 6 → A (o + 1) h = D (3 + h)) (ho_9 : ∀ l, l < nl → A (o + 2) l = D (9 + l)) (ki_9 : ∀ l, l < nl → A (o + 3) l = D (19 + l)) (fo_9 : ∀ l, l < nl → A (o + 4) l = D (29 + l)) (pa_9 : ∀ l, l < nl → ∃ k, k < 4 ∧ D (19 + l) = nI k ∧ A (o + 5) l = plV k (D (29 + l))) (mi_9 : ∀ l, l < 10 → A (o + 6) l = D (39 + l)) (sh_9 : ∀ l, l < 10 → A (o + 7) l = D (49 + l)) (ti_9 : ∀ j, j < 16 → A (o + 8) j = D (59 + j)) : OD A o D nl nw := ⟨l10_9, w8_9, h0_9, a1_9, d1_9, a2_9, d2_9, mo_9, ho_9, ki_9, fo_9, pa_9, mi_9, sh_9, ti_9⟩
theorem OD.l10 {A : mI} {o : Nat} {D : Nat → Int32} {nl nw : Nat} (h : OD A o D nl nw) : nl ≤ 10 := h.1
theorem OD.w8 {A : mI} {o : Nat} {D : Nat → Int32} {nl nw : Nat} (h : OD A o D nl nw) : nw ≤ 8 := h.2.1
theorem OD.h0 {A : mI} {o : Nat} {D : Nat → Int32} {nl nw : Nat} (h : OD A o D nl nw) : A o 0 = D 0 := h.2.2.1
theorem OD.a1 {A : mI} {o : Nat} {D : Nat → Int32} {nl nw : Nat} (h : OD A o D nl nw) : A o 1 = nI nl := h.2.2.2.1
theorem OD.d1 {A : mI} {o : Nat} {D : Nat → Int32} {nl nw : Nat} (h : OD A o D nl nw) : D 1 = nI nl := h.2.2.2.2.1
theorem OD.a2 {A : mI} {o : Nat} {D : Nat → Int32} {nl nw : Nat} (h : OD A o D nl nw) : A o 2 = nI nw := h.2.2.2.2.2.1
theorem OD.d2 {A : mI} {o : Nat} {D : Nat → Int32} {nl nw : Nat} (h : OD A o D nl nw) : D 2 = nI nw := h.2.2.2.2.2.2.1
theorem OD.mo {A : mI} {o : Nat} {D : Nat → Int32} {nl nw : Nat} (h : OD A o D nl nw) : ∀ h, h < 6 → A (o + 1) h = D (3 + h) := h.2.2.2.2.2.2.2.1
theorem OD.ho {A : mI} {o : Nat} {D : Nat → Int32} {nl nw : Nat} (h : OD A o D nl nw) : ∀ l, l < nl → A (o + 2) l = D (9 + l) := h.2.2.2.2.2.2.2.2.1
theorem OD.ki {A : mI} {o : Nat} {D : Nat → Int32} {nl nw : Nat} (h : OD A o D nl nw) : ∀ l, l < nl → A (o + 3) l = D (19 + l) := h.2.2.2.2.2.2.2.2.2.1
theorem OD.fo {A : mI} {o : Nat} {D : Nat → Int32} {nl nw : Nat} (h : OD A o D nl nw) : ∀ l, l < nl → A (o + 4) l = D (29 + l) := h.2.2.2.2.2.2.2.2.2.2.1
theorem OD.pa {A : mI} {o : Nat} {D : Nat → Int32} {nl nw : Nat} (h : OD A o D nl nw) : ∀ l, l < nl → ∃ k, k < 4 ∧ D (19 + l) = nI k ∧ A (o + 5) l = plV k (D (29 + l)) := h.2.2.2.2.2.2.2.2.2.2.2.1
theorem OD.mi {A : mI} {o : Nat} {D : Nat → Int32} {nl nw : Nat} (h : OD A o D nl nw) : ∀ l, l < 10 → A (o + 6) l = D (39 + l) := h.2.2.2.2.2.2.2.2.2.2.2.2.1
theorem OD.sh {A : mI} {o : Nat} {D : Nat → Int32} {nl nw : Nat} (h : OD A o D nl nw) : ∀ l, l < 10 → A (o + 7) l = D (49 + l) := h.2.2.2.2.2.2.2.2.2.2.2.2.2.1
theorem OD.ti {A : mI} {o : Nat} {D : Nat → Int32} {nl nw : Nat} (h : OD A o D nl nw) : ∀ j, j < 16 → A (o + 8) j = D (59 + j) := h.2.2.2.2.2.2.2.2.2.2.2.2.2.2
def WD (A : mI) (w : Nat) (D : Nat → Int32) (c : Nat) : Prop := (c ≤ 40) ∧ (A w 0 = nI c) ∧ (D 0 = nI c) ∧ (∀ k, k < c → A (w + 1) k = D (1 + 3 * k)) ∧ (∀ k, k < c → A (w + 2) k = D (2 + 3 * k)) ∧ (∀ k, k < c → A (w + 3) k = D (3 + 3 * k))
theorem WD.mk {A : mI} {w : Nat} {D : Nat → Int32} {c : Nat} (c40_9 : c ≤ 40) (a0_9 : A w 0 = nI c) (d0_9 : D 0 = nI c) (r1_9 : ∀ k, k < c → A (w + 1) k = D (1 + 3 * k)) (r2_9 : ∀ k, k < c → A (w + 2) k = D (2 + 3 * k)) (r3_9 : ∀ k, k < c → A (w + 3) k = D (3 + 3 * k)) : WD A w D c := ⟨c40_9, a0_9, d0_9, r1_9, r2_9, r3_9⟩
theorem WD.c40 {A : mI} {w : Nat} {D : Nat → Int32} {c : Nat} (h : WD A w D c) : c ≤ 40 := h.1
theorem WD.a0 {A : mI} {w : Nat} {D : Nat → Int32} {c : Nat} (h : WD A w D c) : A w 0 = nI c := h.2.1
theorem WD.d0 {A : mI} {w : Nat} {D : Nat → Int32} {c : Nat} (h : WD A w D c) : D 0 = nI c := h.2.2.1
theorem WD.r1 {A : mI} {w : Nat} {D : Nat → Int32} {c : Nat} (h : WD A w D c) : ∀ k, k < c → A (w + 1) k = D (1 + 3 * k) := h.2.2.2.1
theorem WD.r2 {A : mI} {w : Nat} {D : Nat → Int32} {c : Nat} (h : WD A w D c) : ∀ k, k < c → A (w + 2) k = D (2 + 3 * k) := h.2.2.2.2.1
theorem WD.r3 {A : mI} {w : Nat} {D : Nat → Int32} {c : Nat} (h : WD A w D c) : ∀ k, k < c → A (w + 3) k = D (3 + 3 * k) := h.2.2.2.2.2
def LD (A : mI) (g : Nat) (D : Nat → Int32) (c : Nat) : Prop := (c ≤ 8) ∧ (A g 0 = nI c) ∧ (D 0 = nI c) ∧ (∀ k, k < c → A (g + 1) k = D (1 + 2 * k)) ∧ (∀ k, k < c → A (g + 2) k = D (2 + 2 * k))
theorem LD.mk {A : mI} {g : Nat} {D : Nat → Int32} {c : Nat} (c8_9 : c ≤ 8) (a0_9 : A g 0 = nI c) (d0_9 : D 0 = nI c) (r1_9 : ∀ k, k < c → A (g + 1) k = D (1 + 2 * k)) (r2_9 : ∀ k, k < c → A (g + 2) k = D (2 + 2 * k)) : LD A g D c := ⟨c8_9, a0_9, d0_9, r1_9, r2_9⟩
theorem LD.c8 {A : mI} {g : Nat} {D : Nat → Int32} {c : Nat} (h : LD A g D c) : c ≤ 8 := h.1
theorem LD.a0 {A : mI} {g : Nat} {D : Nat → Int32} {c : Nat} (h : LD A g D c) : A g 0 = nI c := h.2.1
theorem LD.d0 {A : mI} {g : Nat} {D : Nat → Int32} {c : Nat} (h : LD A g D c) : D 0 = nI c := h.2.2.1
theorem LD.r1 {A : mI} {g : Nat} {D : Nat → Int32} {c : Nat} (h : LD A g D c) : ∀ k, k < c → A (g + 1) k = D (1 + 2 * k) := h.2.2.2.1
theorem LD.r2 {A : mI} {g : Nat} {D : Nat → Int32} {c : Nat} (h : LD A g D c) : ∀ k, k < c → A (g + 2) k = D (2 + 2 * k) := h.2.2.2.2
theorem va2 {f g : Nat → Int32} {i j B : Nat} {x : Int32} (h : f j = g (B + j)) : va_up f i x j = va_up g (B + i) x (B + j) := by
  unfold va_up
  by_cases q : j = i
  · subst q; rw [if_pos rfl, if_pos rfl]
  · rw [if_neg q, if_neg (by omega)]; exact h
theorem od_0 {A : mI} {D : Nat → Int32} {nl nw : Nat} (H : OD A 41 D nl nw) {x : Int32} : OD (m_up A 41 0 x) 41 (va_up D 0 x) nl nw := by
  refine OD.mk ?_ ?_ ?_ ?_ ?_ ?_ ?_ ?_ ?_ ?_ ?_ ?_ ?_ ?_ ?_
  · exact H.l10
  · exact H.w8
  · exact by show va_up (A 41) 0 x 0 = (va_up D 0 x) 0; rw [va_up_self, va_up_self]
  · exact H.a1
  · exact H.d1
  · exact H.a2
  · exact H.d2
  · exact fun h hh => by show A 42 h = (va_up D 0 x) (3 + h); rw [va_up_ne _ _ (by omega)]; exact H.mo h hh
  · exact fun h hh => by show A 43 h = (va_up D 0 x) (9 + h); rw [va_up_ne _ _ (by omega)]; exact H.ho h hh
  · exact fun h hh => by show A 44 h = (va_up D 0 x) (19 + h); rw [va_up_ne _ _ (by omega)]; exact H.ki h hh
  · exact fun h hh => by show A 45 h = (va_up D 0 x) (29 + h); rw [va_up_ne _ _ (by omega)]; exact H.fo h hh
  · exact fun h hh => by
        obtain ⟨k, hk, e1, e2⟩ := H.pa h hh
        refine ⟨k, hk, ?_, ?_⟩
        · show (va_up D 0 x) (19 + h) = nI k; rw [va_up_ne _ _ (by omega)]; exact e1
        · show A 46 h = plV k ((va_up D 0 x) (29 + h)); rw [va_up_ne _ _ (by omega)]; exact e2
  · exact fun h hh => by show A 47 h = (va_up D 0 x) (39 + h); rw [va_up_ne _ _ (by omega)]; exact H.mi h hh
  · exact fun h hh => by show A 48 h = (va_up D 0 x) (49 + h); rw [va_up_ne _ _ (by omega)]; exact H.sh h hh
  · exact fun h hh => by show A 49 h = (va_up D 0 x) (59 + h); rw [va_up_ne _ _ (by omega)]; exact H.ti h hh
theorem od_1 {A : mI} {D : Nat → Int32} {nl nw : Nat} (H : OD A 41 D nl nw) {v : Nat} {x : Int32} (hv : v < 6) : OD (m_up A 42 v x) 41 (va_up D (3 + v) x) nl nw := by
  refine OD.mk ?_ ?_ ?_ ?_ ?_ ?_ ?_ ?_ ?_ ?_ ?_ ?_ ?_ ?_ ?_
  · exact H.l10
  · exact H.w8
  · exact by show A 41 0 = (va_up D (3 + v) x) 0; rw [va_up_ne _ _ (by omega)]; exact H.h0
  · exact H.a1
  · exact by show (va_up D (3 + v) x) 1 = nI nl; rw [va_up_ne _ _ (by omega)]; exact H.d1
  · exact H.a2
  · exact by show (va_up D (3 + v) x) 2 = nI nw; rw [va_up_ne _ _ (by omega)]; exact H.d2
  · exact fun h hh => by show va_up (A 42) v x h = (va_up D (3 + v) x) (3 + h); exact va2 (H.mo h hh)
  · exact fun h hh => by show A 43 h = (va_up D (3 + v) x) (9 + h); rw [va_up_ne _ _ (by omega)]; exact H.ho h hh
  · exact fun h hh => by show A 44 h = (va_up D (3 + v) x) (19 + h); rw [va_up_ne _ _ (by omega)]; exact H.ki h hh
  · exact fun h hh => by show A 45 h = (va_up D (3 + v) x) (29 + h); rw [va_up_ne _ _ (by omega)]; exact H.fo h hh
  · exact fun h hh => by
        obtain ⟨k, hk, e1, e2⟩ := H.pa h hh
        refine ⟨k, hk, ?_, ?_⟩
        · show (va_up D (3 + v) x) (19 + h) = nI k; rw [va_up_ne _ _ (by omega)]; exact e1
        · show A 46 h = plV k ((va_up D (3 + v) x) (29 + h)); rw [va_up_ne _ _ (by omega)]; exact e2
  · exact fun h hh => by show A 47 h = (va_up D (3 + v) x) (39 + h); rw [va_up_ne _ _ (by omega)]; exact H.mi h hh
  · exact fun h hh => by show A 48 h = (va_up D (3 + v) x) (49 + h); rw [va_up_ne _ _ (by omega)]; exact H.sh h hh
  · exact fun h hh => by show A 49 h = (va_up D (3 + v) x) (59 + h); rw [va_up_ne _ _ (by omega)]; exact H.ti h hh
theorem od_4 {A : mI} {D : Nat → Int32} {nl nw : Nat} (H : OD A 41 D nl nw) {v : Nat} {x y : Int32} (hv : v < 10) : OD (m_up (m_up A 47 v x) 48 v y) 41 (va_up (va_up D (39 + v) x) (49 + v) y) nl nw := by
  refine OD.mk ?_ ?_ ?_ ?_ ?_ ?_ ?_ ?_ ?_ ?_ ?_ ?_ ?_ ?_ ?_
  · exact H.l10
  · exact H.w8
  · exact by show A 41 0 = (va_up (va_up D (39 + v) x) (49 + v) y) 0; rw [va_up_ne _ _ (by omega), va_up_ne _ _ (by omega)]; exact H.h0
  · exact H.a1
  · exact by show (va_up (va_up D (39 + v) x) (49 + v) y) 1 = nI nl; rw [va_up_ne _ _ (by omega), va_up_ne _ _ (by omega)]; exact H.d1
  · exact H.a2
  · exact by show (va_up (va_up D (39 + v) x) (49 + v) y) 2 = nI nw; rw [va_up_ne _ _ (by omega), va_up_ne _ _ (by omega)]; exact H.d2
  · exact fun h hh => by have h10 := H.l10; show A 42 h = (va_up (va_up D (39 + v) x) (49 + v) y) (3 + h); rw [va_up_ne _ _ (by omega), va_up_ne _ _ (by omega)]; exact H.mo h hh
  · exact fun h hh => by have h10 := H.l10; show A 43 h = (va_up (va_up D (39 + v) x) (49 + v) y) (9 + h); rw [va_up_ne _ _ (by omega), va_up_ne _ _ (by omega)]; exact H.ho h hh
  · exact fun h hh => by have h10 := H.l10; show A 44 h = (va_up (va_up D (39 + v) x) (49 + v) y) (19 + h); rw [va_up_ne _ _ (by omega), va_up_ne _ _ (by omega)]; exact H.ki h hh
  · exact fun h hh => by have h10 := H.l10; show A 45 h = (va_up (va_up D (39 + v) x) (49 + v) y) (29 + h); rw [va_up_ne _ _ (by omega), va_up_ne _ _ (by omega)]; exact H.fo h hh
  · exact fun h hh => by
        have h10 := H.l10
        obtain ⟨k, hk, e1, e2⟩ := H.pa h hh
        refine ⟨k, hk, ?_, ?_⟩
        · show (va_up (va_up D (39 + v) x) (49 + v) y) (19 + h) = nI k; rw [va_up_ne _ _ (by omega), va_up_ne _ _ (by omega)]; exact e1
        · show A 46 h = plV k ((va_up (va_up D (39 + v) x) (49 + v) y) (29 + h)); rw [va_up_ne _ _ (by omega), va_up_ne _ _ (by omega)]; exact e2
  · exact fun h hh => by show va_up (A 47) v x h = (va_up (va_up D (39 + v) x) (49 + v) y) (39 + h); rw [va_up_ne (va_up D (39 + v) x) y (show 39 + h ≠ 49 + v by omega)]; exact va2 (H.mi h hh)
  · exact fun h hh => by show va_up (A 48) v y h = (va_up (va_up D (39 + v) x) (49 + v) y) (49 + h); exact va2 (by rw [va_up_ne _ _ (by omega)]; exact H.sh h hh)
  · exact fun h hh => by show A 49 h = (va_up (va_up D (39 + v) x) (49 + v) y) (59 + h); rw [va_up_ne _ _ (by omega), va_up_ne _ _ (by omega)]; exact H.ti h hh
theorem od_2 {A : mI} {D : Nat → Int32} {nl nw : Nat} (H : OD A 41 D nl nw) {k : Nat} {h f : Int32} (hl : nl < 10) (hk : k < 4) : OD (adI A nl h (nI k) f (plV k f)) 41 (ltU D nl h (nI k) f) (nl + 1) nw := by
  refine OD.mk ?_ ?_ ?_ ?_ ?_ ?_ ?_ ?_ ?_ ?_ ?_ ?_ ?_ ?_ ?_
  · exact hl
  · exact H.w8
  · exact by show A 41 0 = ltU D nl h (nI k) f 0; unfold ltU; rw [va_up_ne _ _ (by omega), va_up_ne _ _ (by omega), va_up_ne _ _ (by omega), va_up_ne _ _ (by omega)]; exact H.h0
  · exact m_up_at
  · exact va_up_self _ _ _
  · exact H.a2
  · exact by show ltU D nl h (nI k) f 2 = nI nw; unfold ltU; rw [va_up_ne _ _ (by omega), va_up_ne _ _ (by omega), va_up_ne _ _ (by omega), va_up_ne _ _ (by omega)]; exact H.d2
  · exact fun j hj => by show A 42 j = ltU D nl h (nI k) f (3 + j); unfold ltU; rw [va_up_ne _ _ (by omega), va_up_ne _ _ (by omega), va_up_ne _ _ (by omega), va_up_ne _ _ (by omega)]; exact H.mo j hj
  · exact fun j hj => by
        show va_up (A 43) nl h j = ltU D nl h (nI k) f (9 + j)
        unfold ltU
        by_cases e : j = nl
        · subst e; rw [va_up_self, va_up_ne _ _ (by omega), va_up_ne _ _ (by omega), va_up_ne _ _ (by omega), va_up_self]
        · rw [va_up_ne _ _ e, va_up_ne _ _ (by omega), va_up_ne _ _ (by omega), va_up_ne _ _ (by omega), va_up_ne _ _ (by omega)]; exact H.ho j (by omega)
  · exact fun j hj => by
        show va_up (A 44) nl (nI k) j = ltU D nl h (nI k) f (19 + j)
        unfold ltU
        by_cases e : j = nl
        · subst e; rw [va_up_self, va_up_ne _ _ (by omega), va_up_ne _ _ (by omega), va_up_self]
        · rw [va_up_ne _ _ e, va_up_ne _ _ (by omega), va_up_ne _ _ (by omega), va_up_ne _ _ (by omega), va_up_ne _ _ (by omega)]; exact H.ki j (by omega)
  · exact fun j hj => by
        show va_up (A 45) nl f j = ltU D nl h (nI k) f (29 + j)
        unfold ltU
        by_cases e : j = nl
        · subst e; rw [va_up_self, va_up_ne _ _ (by omega), va_up_self]
        · rw [va_up_ne _ _ e, va_up_ne _ _ (by omega), va_up_ne _ _ (by omega), va_up_ne _ _ (by omega), va_up_ne _ _ (by omega)]; exact H.fo j (by omega)
  · exact fun j hj => by
        by_cases e : j = nl
        · subst e
          refine ⟨k, hk, ?_, ?_⟩
          · show ltU D j h (nI k) f (19 + j) = nI k
            unfold ltU; rw [va_up_ne _ _ (by omega), va_up_ne _ _ (by omega), va_up_self]
          · show va_up (A 46) j (plV k f) j = plV k (ltU D j h (nI k) f (29 + j))
            unfold ltU; rw [va_up_self, va_up_ne _ _ (by omega), va_up_self]
        · obtain ⟨k2, hk2, e1, e2⟩ := H.pa j (by omega)
          refine ⟨k2, hk2, ?_, ?_⟩
          · show ltU D nl h (nI k) f (19 + j) = nI k2
            unfold ltU; rw [va_up_ne _ _ (by omega), va_up_ne _ _ (by omega), va_up_ne _ _ (by omega), va_up_ne _ _ (by omega)]; exact e1
          · show va_up (A 46) nl (plV k f) j = plV k2 (ltU D nl h (nI k) f (29 + j))
            rw [va_up_ne _ _ e]; unfold ltU; rw [va_up_ne _ _ (by omega), va_up_ne _ _ (by omega), va_up_ne _ _ (by omega), va_up_ne _ _ (by omega)]; exact e2
  · exact fun j hj => by show A 47 j = ltU D nl h (nI k) f (39 + j); unfold ltU; rw [va_up_ne _ _ (by omega), va_up_ne _ _ (by omega), va_up_ne _ _ (by omega), va_up_ne _ _ (by omega)]; exact H.mi j hj
  · exact fun j hj => by show A 48 j = ltU D nl h (nI k) f (49 + j); unfold ltU; rw [va_up_ne _ _ (by omega), va_up_ne _ _ (by omega), va_up_ne _ _ (by omega), va_up_ne _ _ (by omega)]; exact H.sh j hj
  · exact fun j hj => by show A 49 j = ltU D nl h (nI k) f (59 + j); unfold ltU; rw [va_up_ne _ _ (by omega), va_up_ne _ _ (by omega), va_up_ne _ _ (by omega), va_up_ne _ _ (by omega)]; exact H.ti j hj
theorem od_3 {A : mI} {D : Nat → Int32} {nl nw : Nat} (H : OD A 41 D nl nw) {law : Nat} {x : Int32} (hl : law < 16) (hw : D (59 + law) = -1 → nw < 8) : ∃ nw2, OD (tlwI A law x) 41 (lawU D law x) nl nw2 := by
  have e := H.ti law hl
  have h10 := H.l10
  have h8 := H.w8
  unfold tlwI lawU
  by_cases c : D (59 + law) = -1
  · rw [if_pos (show A 49 law = -1 from e.trans c), if_pos c]
    have hs : nI nw + nI 1 = nI (nw + 1) := (Int32.ofNat_add nw 1).symm
    refine ⟨nw + 1, ?_⟩
    refine OD.mk H.l10 (hw c) ?_ H.a1 ?_ ?_ ?_ ?_ ?_ ?_ ?_ ?_ ?_ ?_ ?_
    · show A 41 0 = (va_up (va_up D (59 + law) x) 2 (D 2 + nI 1)) 0; rw [va_up_ne _ _ (by omega), va_up_ne _ _ (by omega)]; exact H.h0
    · show (va_up (va_up D (59 + law) x) 2 (D 2 + nI 1)) 1 = nI nl; rw [va_up_ne _ _ (by omega), va_up_ne _ _ (by omega)]; exact H.d1
    · show va_up (A 41) 2 (A 41 2 + nI 1) 2 = _; rw [va_up_self, H.a2, hs]
    · show (va_up (va_up D (59 + law) x) 2 (D 2 + nI 1)) 2 = nI (nw + 1); rw [va_up_self, H.d2, hs]
    · intro h hh; show A 42 h = (va_up (va_up D (59 + law) x) 2 (D 2 + nI 1)) (3 + h); rw [va_up_ne _ _ (by omega), va_up_ne _ _ (by omega)]; exact H.mo h hh
    · intro h hh; show A 43 h = (va_up (va_up D (59 + law) x) 2 (D 2 + nI 1)) (9 + h); rw [va_up_ne _ _ (by omega), va_up_ne _ _ (by omega)]; exact H.ho h hh
    · intro h hh; show A 44 h = (va_up (va_up D (59 + law) x) 2 (D 2 + nI 1)) (19 + h); rw [va_up_ne _ _ (by omega), va_up_ne _ _ (by omega)]; exact H.ki h hh
    · intro h hh; show A 45 h = (va_up (va_up D (59 + law) x) 2 (D 2 + nI 1)) (29 + h); rw [va_up_ne _ _ (by omega), va_up_ne _ _ (by omega)]; exact H.fo h hh
    · intro h hh
      obtain ⟨k, hk, e1, e2⟩ := H.pa h hh
      refine ⟨k, hk, ?_, ?_⟩
      · show (va_up (va_up D (59 + law) x) 2 (D 2 + nI 1)) (19 + h) = nI k; rw [va_up_ne _ _ (by omega), va_up_ne _ _ (by omega)]; exact e1
      · show A 46 h = plV k ((va_up (va_up D (59 + law) x) 2 (D 2 + nI 1)) (29 + h)); rw [va_up_ne _ _ (by omega), va_up_ne _ _ (by omega)]; exact e2
    · intro h hh; show A 47 h = (va_up (va_up D (59 + law) x) 2 (D 2 + nI 1)) (39 + h); rw [va_up_ne _ _ (by omega), va_up_ne _ _ (by omega)]; exact H.mi h hh
    · intro h hh; show A 48 h = (va_up (va_up D (59 + law) x) 2 (D 2 + nI 1)) (49 + h); rw [va_up_ne _ _ (by omega), va_up_ne _ _ (by omega)]; exact H.sh h hh
    · intro h hh; show va_up (A 49) law x h = (va_up (va_up D (59 + law) x) 2 (D 2 + nI 1)) (59 + h); rw [va_up_ne (va_up D (59 + law) x) (D 2 + nI 1) (show 59 + h ≠ 2 by omega)]; exact va2 (H.ti h hh)
  · rw [if_neg (show ¬ A 49 law = -1 from fun q => c (e.symm.trans q)), if_neg c]
    refine ⟨nw, OD.mk H.l10 H.w8 ?_ H.a1 ?_ H.a2 ?_ ?_ ?_ ?_ ?_ ?_ ?_ ?_ ?_⟩
    · show A 41 0 = (va_up D (59 + law) x) 0; rw [va_up_ne _ _ (by omega)]; exact H.h0
    · show (va_up D (59 + law) x) 1 = nI nl; rw [va_up_ne _ _ (by omega)]; exact H.d1
    · show (va_up D (59 + law) x) 2 = nI nw; rw [va_up_ne _ _ (by omega)]; exact H.d2
    · intro h hh; show A 42 h = (va_up D (59 + law) x) (3 + h); rw [va_up_ne _ _ (by omega)]; exact H.mo h hh
    · intro h hh; show A 43 h = (va_up D (59 + law) x) (9 + h); rw [va_up_ne _ _ (by omega)]; exact H.ho h hh
    · intro h hh; show A 44 h = (va_up D (59 + law) x) (19 + h); rw [va_up_ne _ _ (by omega)]; exact H.ki h hh
    · intro h hh; show A 45 h = (va_up D (59 + law) x) (29 + h); rw [va_up_ne _ _ (by omega)]; exact H.fo h hh
    · intro h hh
      obtain ⟨k, hk, e1, e2⟩ := H.pa h hh
      refine ⟨k, hk, ?_, ?_⟩
      · show (va_up D (59 + law) x) (19 + h) = nI k; rw [va_up_ne _ _ (by omega)]; exact e1
      · show A 46 h = plV k ((va_up D (59 + law) x) (29 + h)); rw [va_up_ne _ _ (by omega)]; exact e2
    · intro h hh; show A 47 h = (va_up D (59 + law) x) (39 + h); rw [va_up_ne _ _ (by omega)]; exact H.mi h hh
    · intro h hh; show A 48 h = (va_up D (59 + law) x) (49 + h); rw [va_up_ne _ _ (by omega)]; exact H.sh h hh
    · intro h hh; show va_up (A 49) law x h = (va_up D (59 + law) x) (59 + h); exact va2 (H.ti h hh)
theorem wd_s {A : mI} {D : Nat → Int32} {c : Nat} (H : WD A 50 D c) {a l h : Int32} (hc : c < 40) : WD (waI A c a l h) 50 (wkU D c a l h) (c + 1) := by
  refine WD.mk ?_ ?_ ?_ ?_ ?_ ?_
  · exact hc
  · exact m_up_at
  · exact va_up_self _ _ _
  · exact fun j hj => by
        show va_up (A 51) c a j = wkU D c a l h (1 + 3 * j)
        unfold wkU
        by_cases e : j = c
        · subst e; rw [va_up_self, va_up_ne _ _ (by omega), va_up_ne _ _ (by omega), va_up_ne _ _ (by omega), va_up_self]
        · rw [va_up_ne _ _ e, va_up_ne _ _ (by omega), va_up_ne _ _ (by omega), va_up_ne _ _ (by omega), va_up_ne _ _ (by omega)]; exact H.r1 j (by omega)
  · exact fun j hj => by
        show va_up (A 52) c l j = wkU D c a l h (2 + 3 * j)
        unfold wkU
        by_cases e : j = c
        · subst e; rw [va_up_self, va_up_ne _ _ (by omega), va_up_ne _ _ (by omega), va_up_self]
        · rw [va_up_ne _ _ e, va_up_ne _ _ (by omega), va_up_ne _ _ (by omega), va_up_ne _ _ (by omega), va_up_ne _ _ (by omega)]; exact H.r2 j (by omega)
  · exact fun j hj => by
        show va_up (A 53) c h j = wkU D c a l h (3 + 3 * j)
        unfold wkU
        by_cases e : j = c
        · subst e; rw [va_up_self, va_up_ne _ _ (by omega), va_up_self]
        · rw [va_up_ne _ _ e, va_up_ne _ _ (by omega), va_up_ne _ _ (by omega), va_up_ne _ _ (by omega), va_up_ne _ _ (by omega)]; exact H.r3 j (by omega)
theorem ld_s {A : mI} {D : Nat → Int32} {c : Nat} (H : LD A 54 D c) {h m : Int32} (hc : c < 8) : LD (gaI A c h m) 54 (lgU D c h m) (c + 1) := by
  refine LD.mk ?_ ?_ ?_ ?_ ?_
  · exact hc
  · exact m_up_at
  · exact va_up_self _ _ _
  · exact fun j hj => by
        show va_up (A 55) c h j = lgU D c h m (1 + 2 * j)
        unfold lgU
        by_cases e : j = c
        · subst e; rw [va_up_self, va_up_ne _ _ (by omega), va_up_ne _ _ (by omega), va_up_self]
        · rw [va_up_ne _ _ e, va_up_ne _ _ (by omega), va_up_ne _ _ (by omega), va_up_ne _ _ (by omega)]; exact H.r1 j (by omega)
  · exact fun j hj => by
        show va_up (A 56) c m j = lgU D c h m (2 + 2 * j)
        unfold lgU
        by_cases e : j = c
        · subst e; rw [va_up_self, va_up_ne _ _ (by omega), va_up_self]
        · rw [va_up_ne _ _ e, va_up_ne _ _ (by omega), va_up_ne _ _ (by omega), va_up_ne _ _ (by omega)]; exact H.r2 j (by omega)
/-- the reader between two lines -/
def dR (of : Nat) (A : mI) (D : Nat → Int32) : Prop := if of = 0 then ∃ nl nw, OD A 41 D nl nw else if of = 1 then ∃ c, WD A 50 D c else ∃ c, LD A 54 D c

def CR (of : Nat) (st : TS) (A : mI) (F : Nat → Int32) : Prop := (st.f < 5) ∧ (F 3 = nI st.f) ∧ (F 4 = (if st.f = 0 then -1 else nI st.pl)) ∧ (F 16 = st.gh) ∧ (F 17 = st.gl) ∧ (dR of A st.D)
theorem CR.mk {of : Nat} {st : TS} {A : mI} {F : Nat → Int32} (f5_9 : st.f < 5) (f3_9 : F 3 = nI st.f) (f4_9 : F 4 = (if st.f = 0 then -1 else nI st.pl)) (gh_9 : F 16 = st.gh) (gl_9 : F 17 = st.gl) (da_9 : dR of A st.D) : CR of st A F := ⟨f5_9, f3_9, f4_9, gh_9, gl_9, da_9⟩
theorem CR.f5 {of : Nat} {st : TS} {A : mI} {F : Nat → Int32} (h : CR of st A F) : st.f < 5 := h.1
theorem CR.f3 {of : Nat} {st : TS} {A : mI} {F : Nat → Int32} (h : CR of st A F) : F 3 = nI st.f := h.2.1
theorem CR.f4 {of : Nat} {st : TS} {A : mI} {F : Nat → Int32} (h : CR of st A F) : F 4 = (if st.f = 0 then -1 else nI st.pl) := h.2.2.1
theorem CR.gh {of : Nat} {st : TS} {A : mI} {F : Nat → Int32} (h : CR of st A F) : F 16 = st.gh := h.2.2.2.1
theorem CR.gl {of : Nat} {st : TS} {A : mI} {F : Nat → Int32} (h : CR of st A F) : F 17 = st.gl := h.2.2.2.2.1
theorem CR.da {of : Nat} {st : TS} {A : mI} {F : Nat → Int32} (h : CR of st A F) : dR of A st.D := h.2.2.2.2.2
theorem CR_F {of : Nat} {st : TS} {A : mI} {F G : Nat → Int32} (h : CR of st A F) (h3 : G 3 = F 3) (h4 : G 4 = F 4) (h16 : G 16 = F 16) (h17 : G 17 = F 17) : CR of st A G :=
  CR.mk h.f5 (h3.trans h.f3) (h4.trans h.f4) (h16.trans h.gh) (h17.trans h.gl) h.da
theorem CR_z {of : Nat} {st : TS} {A : mI} {F : Nat → Int32} (h : CR of st A F) : F 3 = 0 ↔ st.f = 0 := by
  have h5 := h.f5
  rw [h.f3, show (0 : Int32) = nI 0 from rfl, nI_eq (by omega) (by omega)]
theorem mx_mx {g : Int32} {a b : Nat} (ha : a < 100) (hb : b < 100) : (if g < (if nI a < nI b then nI b else nI a) then (if nI a < nI b then nI b else nI a) else g) = mxI (mxI g a) b := by
  unfold mxI
  by_cases c : a < b
  · rw [if_pos ((nI_ltI (by omega) (by omega)).mpr c)]
    by_cases q : g < nI a
    · rw [if_pos q, if_pos ((nI_ltI (by omega) (by omega)).mpr c), if_pos (Int32.lt_trans q ((nI_ltI (by omega) (by omega)).mpr c))]
    · rw [if_neg q]
  · rw [if_neg (fun q => c ((nI_ltI (by omega) (by omega)).mp q))]
    by_cases q : g < nI a
    · rw [if_pos q, if_neg (fun q => c ((nI_ltI (by omega) (by omega)).mp q))]
    · rw [if_neg q]
      by_cases r : g < nI b
      · exact absurd (Int32.lt_of_lt_of_le r (show nI b ≤ nI a from Int32.not_lt.mp (fun q => c ((nI_ltI (by omega) (by omega)).mp q)))) q
      · rw [if_neg r]
