def OKr (D : Nat → Int32) (gh gl : Int32) (nh nl nw : Nat) : Prop := (1 ≤ nh) ∧ (nh ≤ 6) ∧ (nl ≤ 10) ∧ (nw ≤ 8) ∧ (D 0 = nI nh) ∧ (D 1 = nI nl) ∧ (D 2 = nI nw) ∧ (∀ h, h < 6 → ∃ m, m ≤ 50 ∧ D (3 + h) = nI m) ∧ (∀ l, l < 10 → ∃ a, a < 6 ∧ D (9 + l) = nI a ∧ (l < nl → ¬ gh < nI a)) ∧ (∀ l, l < 10 → ∃ k, k < 4 ∧ D (19 + l) = nI k) ∧ (∀ l, l < 10 → ∃ f, f ≤ 9 ∧ D (29 + l) = nI f ∧ (l < nl → 1 ≤ f)) ∧ (∀ l, l < 10 → (D (39 + l) = -1 ∧ D (49 + l) = -1) ∨ ∃ a s, a < 10 ∧ a ≠ l ∧ s ≤ 3 ∧ D (39 + l) = nI a ∧ D (49 + l) = nI s ∧ ¬ gl < nI l ∧ ¬ gl < nI a) ∧ (∀ j, j < 16 → D (59 + j) = -1 ∨ ∃ t, t ≤ 9 ∧ D (59 + j) = nI t) ∧ (nw = 0 ↔ ∀ j, j < 16 → D (59 + j) = -1)
theorem OKr.mk {D : Nat → Int32} {gh gl : Int32} {nh nl nw : Nat} (nh1_9 : 1 ≤ nh) (nh6_9 : nh ≤ 6) (l10_9 : nl ≤ 10) (w8_9 : nw ≤ 8) (d0_9 : D 0 = nI nh) (d1_9 : D 1 = nI nl) (d2_9 : D 2 = nI nw) (mo_9 : ∀ h, h < 6 → ∃ m, m ≤ 50 ∧ D (3 + h) = nI m) (ho_9 : ∀ l, l < 10 → ∃ a, a < 6 ∧ D (9 + l) = nI a ∧ (l < nl → ¬ gh < nI a)) (ki_9 : ∀ l, l < 10 → ∃ k, k < 4 ∧ D (19 + l) = nI k) (fo_9 : ∀ l, l < 10 → ∃ f, f ≤ 9 ∧ D (29 + l) = nI f ∧ (l < nl → 1 ≤ f)) (mi_9 : ∀ l, l < 10 → (D (39 + l) = -1 ∧ D (49 + l) = -1) ∨ ∃ a s, a < 10 ∧ a ≠ l ∧ s ≤ 3 ∧ D (39 + l) = nI a ∧ D (49 + l) = nI s ∧ ¬ gl < nI l ∧ ¬ gl < nI a) (ti_9 : ∀ j, j < 16 → D (59 + j) = -1 ∨ ∃ t, t ≤ 9 ∧ D (59 + j) = nI t) (lw_9 : nw = 0 ↔ ∀ j, j < 16 → D (59 + j) = -1) : OKr D gh gl nh nl nw := ⟨nh1_9, nh6_9, l10_9, w8_9, d0_9, d1_9, d2_9, mo_9, ho_9, ki_9, fo_9, mi_9, ti_9, lw_9⟩
theorem OKr.nh1 {D : Nat → Int32} {gh gl : Int32} {nh nl nw : Nat} (h : OKr D gh gl nh nl nw) : 1 ≤ nh := h.1
theorem OKr.nh6 {D : Nat → Int32} {gh gl : Int32} {nh nl nw : Nat} (h : OKr D gh gl nh nl nw) : nh ≤ 6 := h.2.1
theorem OKr.l10 {D : Nat → Int32} {gh gl : Int32} {nh nl nw : Nat} (h : OKr D gh gl nh nl nw) : nl ≤ 10 := h.2.2.1
theorem OKr.w8 {D : Nat → Int32} {gh gl : Int32} {nh nl nw : Nat} (h : OKr D gh gl nh nl nw) : nw ≤ 8 := h.2.2.2.1
theorem OKr.d0 {D : Nat → Int32} {gh gl : Int32} {nh nl nw : Nat} (h : OKr D gh gl nh nl nw) : D 0 = nI nh := h.2.2.2.2.1
theorem OKr.d1 {D : Nat → Int32} {gh gl : Int32} {nh nl nw : Nat} (h : OKr D gh gl nh nl nw) : D 1 = nI nl := h.2.2.2.2.2.1
theorem OKr.d2 {D : Nat → Int32} {gh gl : Int32} {nh nl nw : Nat} (h : OKr D gh gl nh nl nw) : D 2 = nI nw := h.2.2.2.2.2.2.1
theorem OKr.mo {D : Nat → Int32} {gh gl : Int32} {nh nl nw : Nat} (h : OKr D gh gl nh nl nw) : ∀ h, h < 6 → ∃ m, m ≤ 50 ∧ D (3 + h) = nI m := h.2.2.2.2.2.2.2.1
theorem OKr.ho {D : Nat → Int32} {gh gl : Int32} {nh nl nw : Nat} (h : OKr D gh gl nh nl nw) : ∀ l, l < 10 → ∃ a, a < 6 ∧ D (9 + l) = nI a ∧ (l < nl → ¬ gh < nI a) := h.2.2.2.2.2.2.2.2.1
theorem OKr.ki {D : Nat → Int32} {gh gl : Int32} {nh nl nw : Nat} (h : OKr D gh gl nh nl nw) : ∀ l, l < 10 → ∃ k, k < 4 ∧ D (19 + l) = nI k := h.2.2.2.2.2.2.2.2.2.1
theorem OKr.fo {D : Nat → Int32} {gh gl : Int32} {nh nl nw : Nat} (h : OKr D gh gl nh nl nw) : ∀ l, l < 10 → ∃ f, f ≤ 9 ∧ D (29 + l) = nI f ∧ (l < nl → 1 ≤ f) := h.2.2.2.2.2.2.2.2.2.2.1
theorem OKr.mi {D : Nat → Int32} {gh gl : Int32} {nh nl nw : Nat} (h : OKr D gh gl nh nl nw) : ∀ l, l < 10 → (D (39 + l) = -1 ∧ D (49 + l) = -1) ∨ ∃ a s, a < 10 ∧ a ≠ l ∧ s ≤ 3 ∧ D (39 + l) = nI a ∧ D (49 + l) = nI s ∧ ¬ gl < nI l ∧ ¬ gl < nI a := h.2.2.2.2.2.2.2.2.2.2.2.1
theorem OKr.ti {D : Nat → Int32} {gh gl : Int32} {nh nl nw : Nat} (h : OKr D gh gl nh nl nw) : ∀ j, j < 16 → D (59 + j) = -1 ∨ ∃ t, t ≤ 9 ∧ D (59 + j) = nI t := h.2.2.2.2.2.2.2.2.2.2.2.2.1
theorem OKr.lw {D : Nat → Int32} {gh gl : Int32} {nh nl nw : Nat} (h : OKr D gh gl nh nl nw) : nw = 0 ↔ ∀ j, j < 16 → D (59 + j) = -1 := h.2.2.2.2.2.2.2.2.2.2.2.2.2
theorem mx_ge {g : Int32} {v : Nat} : ¬ mxI g v < nI v := by
  unfold mxI
  by_cases h : g < nI v
  · rw [if_pos h]; exact Int32.lt_irrefl
  · rw [if_neg h]; exact h
theorem mx_mo {g : Int32} {v a : Nat} (h : ¬ g < nI a) : ¬ mxI g v < nI a := by
  unfold mxI
  by_cases q : g < nI v
  · rw [if_pos q]; intro r; exact h (Int32.lt_trans q r)
  · rw [if_neg q]; exact h
theorem va_eq {f : Nat → Int32} {k j : Nat} {x : Int32} (h : j = k) : va_up f k x j = x := by subst h; exact va_up_self _ _ _
theorem ok_0 {D : Nat → Int32} {gh gl : Int32} {nh nl nw : Nat} (H : OKr D gh gl nh nl nw) {v : Nat} (h1 : 1 ≤ v) (h6 : v ≤ 6) : OKr (va_up D 0 (nI v)) gh gl v nl nw := by
  refine OKr.mk ?_ ?_ ?_ ?_ ?_ ?_ ?_ ?_ ?_ ?_ ?_ ?_ ?_ ?_
  · exact h1
  · exact h6
  · exact H.l10
  · exact H.w8
  · exact va_up_self _ _ _
  · exact by rw [va_up_ne _ _ (by omega)]; exact H.d1
  · exact by rw [va_up_ne _ _ (by omega)]; exact H.d2
  · exact fun h hh => by obtain ⟨m, hm, e⟩ := H.mo h hh; exact ⟨m, hm, by rw [va_up_ne _ _ (by omega)]; exact e⟩
  · exact fun l hl => by obtain ⟨a, ha, e, q⟩ := H.ho l hl; exact ⟨a, ha, by rw [va_up_ne _ _ (by omega)]; exact e, q⟩
  · exact fun l hl => by obtain ⟨k, hk, e⟩ := H.ki l hl; exact ⟨k, hk, by rw [va_up_ne _ _ (by omega)]; exact e⟩
  · exact fun l hl => by obtain ⟨f, hf, e, q⟩ := H.fo l hl; exact ⟨f, hf, by rw [va_up_ne _ _ (by omega)]; exact e, q⟩
  · exact fun l hl => by
        rcases H.mi l hl with ⟨e1, e2⟩ | ⟨a, s, ha, hal, hs, e1, e2, q1, q2⟩
        · exact Or.inl ⟨by rw [va_up_ne _ _ (by omega)]; exact e1, by rw [va_up_ne _ _ (by omega)]; exact e2⟩
        · exact Or.inr ⟨a, s, ha, hal, hs, by rw [va_up_ne _ _ (by omega)]; exact e1, by rw [va_up_ne _ _ (by omega)]; exact e2, q1, q2⟩
  · exact fun j hj => by
        rcases H.ti j hj with e | ⟨t, ht, e⟩
        · exact Or.inl (by rw [va_up_ne _ _ (by omega)]; exact e)
        · exact Or.inr ⟨t, ht, by rw [va_up_ne _ _ (by omega)]; exact e⟩
  · exact ⟨fun z j hj => by rw [va_up_ne _ _ (by omega)]; exact H.lw.mp z j hj, fun h => H.lw.mpr (fun j hj => by have q := h j hj; rw [va_up_ne _ _ (by omega)] at q; exact q)⟩
theorem ok_1 {D : Nat → Int32} {gh gl : Int32} {nh nl nw : Nat} (H : OKr D gh gl nh nl nw) {v u : Nat} (hv : v ≤ 5) (hu : u ≤ 50) : OKr (va_up D (3 + v) (nI u)) (mxI gh v) gl nh nl nw := by
  refine OKr.mk ?_ ?_ ?_ ?_ ?_ ?_ ?_ ?_ ?_ ?_ ?_ ?_ ?_ ?_
  · exact H.nh1
  · exact H.nh6
  · exact H.l10
  · exact H.w8
  · exact by rw [va_up_ne _ _ (by omega)]; exact H.d0
  · exact by rw [va_up_ne _ _ (by omega)]; exact H.d1
  · exact by rw [va_up_ne _ _ (by omega)]; exact H.d2
  · exact fun h hh => by
        by_cases e : h = v
        · exact ⟨u, hu, by subst e; exact va_up_self _ _ _⟩
        · obtain ⟨m, hm, e2⟩ := H.mo h hh; exact ⟨m, hm, by rw [va_up_ne _ _ (by omega)]; exact e2⟩
  · exact fun l hl => by obtain ⟨a, ha, e, q⟩ := H.ho l hl; exact ⟨a, ha, by rw [va_up_ne _ _ (by omega)]; exact e, fun z => mx_mo (q z)⟩
  · exact fun l hl => by obtain ⟨k, hk, e⟩ := H.ki l hl; exact ⟨k, hk, by rw [va_up_ne _ _ (by omega)]; exact e⟩
  · exact fun l hl => by obtain ⟨f, hf, e, q⟩ := H.fo l hl; exact ⟨f, hf, by rw [va_up_ne _ _ (by omega)]; exact e, q⟩
  · exact fun l hl => by
        rcases H.mi l hl with ⟨e1, e2⟩ | ⟨a, s, ha, hal, hs, e1, e2, q1, q2⟩
        · exact Or.inl ⟨by rw [va_up_ne _ _ (by omega)]; exact e1, by rw [va_up_ne _ _ (by omega)]; exact e2⟩
        · exact Or.inr ⟨a, s, ha, hal, hs, by rw [va_up_ne _ _ (by omega)]; exact e1, by rw [va_up_ne _ _ (by omega)]; exact e2, q1, q2⟩
  · exact fun j hj => by
        rcases H.ti j hj with e | ⟨t, ht, e⟩
        · exact Or.inl (by rw [va_up_ne _ _ (by omega)]; exact e)
        · exact Or.inr ⟨t, ht, by rw [va_up_ne _ _ (by omega)]; exact e⟩
  · exact ⟨fun z j hj => by rw [va_up_ne _ _ (by omega)]; exact H.lw.mp z j hj, fun h => H.lw.mpr (fun j hj => by have q := h j hj; rw [va_up_ne _ _ (by omega)] at q; exact q)⟩
theorem ok_2 {D : Nat → Int32} {gh gl : Int32} {nh nl nw : Nat} (H : OKr D gh gl nh nl nw) {v kk f : Nat} (hl9 : nl < 10) (hv : v ≤ 5) (hk : kk < 4) (hf1 : 1 ≤ f) (hf9 : f ≤ 9) : OKr (ltU D nl (nI v) (nI kk) (nI f)) (mxI gh v) gl nh (nl + 1) nw := by
  refine OKr.mk ?_ ?_ ?_ ?_ ?_ ?_ ?_ ?_ ?_ ?_ ?_ ?_ ?_ ?_
  · exact H.nh1
  · exact H.nh6
  · exact hl9
  · exact H.w8
  · exact by unfold ltU; rw [va_up_ne _ _ (by omega), va_up_ne _ _ (by omega), va_up_ne _ _ (by omega), va_up_ne _ _ (by omega)]; exact H.d0
  · exact va_up_self _ _ _
  · exact by unfold ltU; rw [va_up_ne _ _ (by omega), va_up_ne _ _ (by omega), va_up_ne _ _ (by omega), va_up_ne _ _ (by omega)]; exact H.d2
  · exact fun h hh => by obtain ⟨m, hm, e⟩ := H.mo h hh; exact ⟨m, hm, by unfold ltU; rw [va_up_ne _ _ (by omega), va_up_ne _ _ (by omega), va_up_ne _ _ (by omega), va_up_ne _ _ (by omega)]; exact e⟩
  · exact fun l hl => by
        by_cases e : l = nl
        · exact ⟨v, by omega, by subst e; unfold ltU; rw [va_up_ne _ _ (by omega), va_up_ne _ _ (by omega), va_up_ne _ _ (by omega), va_up_self], fun _ => mx_ge⟩
        · obtain ⟨a, ha, e2, q⟩ := H.ho l hl; exact ⟨a, ha, by unfold ltU; rw [va_up_ne _ _ (by omega), va_up_ne _ _ (by omega), va_up_ne _ _ (by omega), va_up_ne _ _ (by omega)]; exact e2, fun z => mx_mo (q (by omega))⟩
  · exact fun l hl => by
        by_cases e : l = nl
        · exact ⟨kk, hk, by subst e; unfold ltU; rw [va_up_ne _ _ (by omega), va_up_ne _ _ (by omega), va_up_self]⟩
        · obtain ⟨k, hk2, e2⟩ := H.ki l hl; exact ⟨k, hk2, by unfold ltU; rw [va_up_ne _ _ (by omega), va_up_ne _ _ (by omega), va_up_ne _ _ (by omega), va_up_ne _ _ (by omega)]; exact e2⟩
  · exact fun l hl => by
        by_cases e : l = nl
        · exact ⟨f, hf9, by subst e; unfold ltU; rw [va_up_ne _ _ (by omega), va_up_self], fun _ => hf1⟩
        · obtain ⟨f2, hf, e2, q⟩ := H.fo l hl; exact ⟨f2, hf, by unfold ltU; rw [va_up_ne _ _ (by omega), va_up_ne _ _ (by omega), va_up_ne _ _ (by omega), va_up_ne _ _ (by omega)]; exact e2, fun z => q (by omega)⟩
  · exact fun l hl => by
        rcases H.mi l hl with ⟨e1, e2⟩ | ⟨a, s, ha, hal, hs, e1, e2, q1, q2⟩
        · exact Or.inl ⟨by unfold ltU; rw [va_up_ne _ _ (by omega), va_up_ne _ _ (by omega), va_up_ne _ _ (by omega), va_up_ne _ _ (by omega)]; exact e1, by unfold ltU; rw [va_up_ne _ _ (by omega), va_up_ne _ _ (by omega), va_up_ne _ _ (by omega), va_up_ne _ _ (by omega)]; exact e2⟩
        · exact Or.inr ⟨a, s, ha, hal, hs, by unfold ltU; rw [va_up_ne _ _ (by omega), va_up_ne _ _ (by omega), va_up_ne _ _ (by omega), va_up_ne _ _ (by omega)]; exact e1, by unfold ltU; rw [va_up_ne _ _ (by omega), va_up_ne _ _ (by omega), va_up_ne _ _ (by omega), va_up_ne _ _ (by omega)]; exact e2, q1, q2⟩
  · exact fun j hj => by
        rcases H.ti j hj with e | ⟨t, ht, e⟩
        · exact Or.inl (by unfold ltU; rw [va_up_ne _ _ (by omega), va_up_ne _ _ (by omega), va_up_ne _ _ (by omega), va_up_ne _ _ (by omega)]; exact e)
        · exact Or.inr ⟨t, ht, by unfold ltU; rw [va_up_ne _ _ (by omega), va_up_ne _ _ (by omega), va_up_ne _ _ (by omega), va_up_ne _ _ (by omega)]; exact e⟩
  · exact ⟨fun z j hj => by unfold ltU; rw [va_up_ne _ _ (by omega), va_up_ne _ _ (by omega), va_up_ne _ _ (by omega), va_up_ne _ _ (by omega)]; exact H.lw.mp z j hj, fun h => H.lw.mpr (fun j hj => by have q := h j hj; unfold ltU at q; rw [va_up_ne _ _ (by omega), va_up_ne _ _ (by omega), va_up_ne _ _ (by omega), va_up_ne _ _ (by omega)] at q; exact q)⟩
theorem ok_4 {D : Nat → Int32} {gh gl : Int32} {nh nl nw : Nat} (H : OKr D gh gl nh nl nw) {v u s : Nat} (hv : v ≤ 9) (hu : u ≤ 9) (hne : u ≠ v) (hs : s ≤ 3) : OKr (va_up (va_up D (39 + v) (nI u)) (49 + v) (nI s)) gh (mxI (mxI gl v) u) nh nl nw := by
  refine OKr.mk ?_ ?_ ?_ ?_ ?_ ?_ ?_ ?_ ?_ ?_ ?_ ?_ ?_ ?_
  · exact H.nh1
  · exact H.nh6
  · exact H.l10
  · exact H.w8
  · exact by rw [va_up_ne _ _ (by omega), va_up_ne _ _ (by omega)]; exact H.d0
  · exact by rw [va_up_ne _ _ (by omega), va_up_ne _ _ (by omega)]; exact H.d1
  · exact by rw [va_up_ne _ _ (by omega), va_up_ne _ _ (by omega)]; exact H.d2
  · exact fun h hh => by obtain ⟨m, hm, e⟩ := H.mo h hh; exact ⟨m, hm, by rw [va_up_ne _ _ (by omega), va_up_ne _ _ (by omega)]; exact e⟩
  · exact fun l hl => by obtain ⟨a, ha, e, q⟩ := H.ho l hl; exact ⟨a, ha, by rw [va_up_ne _ _ (by omega), va_up_ne _ _ (by omega)]; exact e, q⟩
  · exact fun l hl => by obtain ⟨k, hk, e⟩ := H.ki l hl; exact ⟨k, hk, by rw [va_up_ne _ _ (by omega), va_up_ne _ _ (by omega)]; exact e⟩
  · exact fun l hl => by obtain ⟨f, hf, e, q⟩ := H.fo l hl; exact ⟨f, hf, by rw [va_up_ne _ _ (by omega), va_up_ne _ _ (by omega)]; exact e, q⟩
  · exact fun l hl => by
        by_cases e : l = v
        · subst e
          exact Or.inr ⟨u, s, by omega, hne, hs, by rw [va_up_ne _ _ (by omega), va_up_self], va_up_self _ _ _, mx_mo mx_ge, mx_ge⟩
        · rcases H.mi l hl with ⟨e1, e2⟩ | ⟨a, s2, ha, hal, hs2, e1, e2, q1, q2⟩
          · exact Or.inl ⟨by rw [va_up_ne _ _ (by omega), va_up_ne _ _ (by omega)]; exact e1, by rw [va_up_ne _ _ (by omega), va_up_ne _ _ (by omega)]; exact e2⟩
          · exact Or.inr ⟨a, s2, ha, hal, hs2, by rw [va_up_ne _ _ (by omega), va_up_ne _ _ (by omega)]; exact e1, by rw [va_up_ne _ _ (by omega), va_up_ne _ _ (by omega)]; exact e2, mx_mo (mx_mo q1), mx_mo (mx_mo q2)⟩
  · exact fun j hj => by
        rcases H.ti j hj with e | ⟨t, ht, e⟩
        · exact Or.inl (by rw [va_up_ne _ _ (by omega), va_up_ne _ _ (by omega)]; exact e)
        · exact Or.inr ⟨t, ht, by rw [va_up_ne _ _ (by omega), va_up_ne _ _ (by omega)]; exact e⟩
  · exact ⟨fun z j hj => by rw [va_up_ne _ _ (by omega), va_up_ne _ _ (by omega)]; exact H.lw.mp z j hj, fun h => H.lw.mpr (fun j hj => by have q := h j hj; rw [va_up_ne _ _ (by omega), va_up_ne _ _ (by omega)] at q; exact q)⟩
theorem ok_3n {D : Nat → Int32} {gh gl : Int32} {nh nl nw : Nat} (H : OKr D gh gl nh nl nw) {law t : Nat} (hl : law < 16) (ht : t ≤ 9) (hw8 : nw < 8) : OKr (va_up (va_up D (59 + law) (nI t)) 2 (nI (nw + 1))) gh gl nh nl (nw + 1) := by
  refine OKr.mk ?_ ?_ ?_ ?_ ?_ ?_ ?_ ?_ ?_ ?_ ?_ ?_ ?_ ?_
  · exact H.nh1
  · exact H.nh6
  · exact H.l10
  · exact hw8
  · exact by rw [va_up_ne _ _ (by omega), va_up_ne _ _ (by omega)]; exact H.d0
  · exact by rw [va_up_ne _ _ (by omega), va_up_ne _ _ (by omega)]; exact H.d1
  · exact va_up_self _ _ _
  · exact fun h hh => by obtain ⟨m, hm, e⟩ := H.mo h hh; exact ⟨m, hm, by rw [va_up_ne _ _ (by omega), va_up_ne _ _ (by omega)]; exact e⟩
  · exact fun l hl => by obtain ⟨a, ha, e, q⟩ := H.ho l hl; exact ⟨a, ha, by rw [va_up_ne _ _ (by omega), va_up_ne _ _ (by omega)]; exact e, q⟩
  · exact fun l hl => by obtain ⟨k, hk, e⟩ := H.ki l hl; exact ⟨k, hk, by rw [va_up_ne _ _ (by omega), va_up_ne _ _ (by omega)]; exact e⟩
  · exact fun l hl => by obtain ⟨f, hf, e, q⟩ := H.fo l hl; exact ⟨f, hf, by rw [va_up_ne _ _ (by omega), va_up_ne _ _ (by omega)]; exact e, q⟩
  · exact fun l hl => by
        rcases H.mi l hl with ⟨e1, e2⟩ | ⟨a, s, ha, hal, hs, e1, e2, q1, q2⟩
        · exact Or.inl ⟨by rw [va_up_ne _ _ (by omega), va_up_ne _ _ (by omega)]; exact e1, by rw [va_up_ne _ _ (by omega), va_up_ne _ _ (by omega)]; exact e2⟩
        · exact Or.inr ⟨a, s, ha, hal, hs, by rw [va_up_ne _ _ (by omega), va_up_ne _ _ (by omega)]; exact e1, by rw [va_up_ne _ _ (by omega), va_up_ne _ _ (by omega)]; exact e2, q1, q2⟩
  · exact fun j hj => by
        by_cases e : j = law
        · exact Or.inr ⟨t, ht, by subst e; rw [va_up_ne _ _ (by omega), va_up_self]⟩
        · rcases H.ti j hj with e2 | ⟨t2, ht2, e2⟩
          · exact Or.inl (by rw [va_up_ne _ _ (by omega), va_up_ne _ _ (by omega)]; exact e2)
          · exact Or.inr ⟨t2, ht2, by rw [va_up_ne _ _ (by omega), va_up_ne _ _ (by omega)]; exact e2⟩
  · exact ⟨fun z => absurd z (by omega), fun h => by
        have q := h law hl; rw [va_up_ne _ _ (by omega), va_up_self] at q; exact absurd q (nI_m1 (by omega))⟩
theorem ok_3o {D : Nat → Int32} {gh gl : Int32} {nh nl nw : Nat} (H : OKr D gh gl nh nl nw) {law t : Nat} (hl : law < 16) (ht : t ≤ 9) (hn : ¬ D (59 + law) = -1) : OKr (va_up D (59 + law) (nI t)) gh gl nh nl nw := by
  refine OKr.mk ?_ ?_ ?_ ?_ ?_ ?_ ?_ ?_ ?_ ?_ ?_ ?_ ?_ ?_
  · exact H.nh1
  · exact H.nh6
  · exact H.l10
  · exact H.w8
  · exact by rw [va_up_ne _ _ (by omega)]; exact H.d0
  · exact by rw [va_up_ne _ _ (by omega)]; exact H.d1
  · exact by rw [va_up_ne _ _ (by omega)]; exact H.d2
  · exact fun h hh => by obtain ⟨m, hm, e⟩ := H.mo h hh; exact ⟨m, hm, by rw [va_up_ne _ _ (by omega)]; exact e⟩
  · exact fun l hl => by obtain ⟨a, ha, e, q⟩ := H.ho l hl; exact ⟨a, ha, by rw [va_up_ne _ _ (by omega)]; exact e, q⟩
  · exact fun l hl => by obtain ⟨k, hk, e⟩ := H.ki l hl; exact ⟨k, hk, by rw [va_up_ne _ _ (by omega)]; exact e⟩
  · exact fun l hl => by obtain ⟨f, hf, e, q⟩ := H.fo l hl; exact ⟨f, hf, by rw [va_up_ne _ _ (by omega)]; exact e, q⟩
  · exact fun l hl => by
        rcases H.mi l hl with ⟨e1, e2⟩ | ⟨a, s, ha, hal, hs, e1, e2, q1, q2⟩
        · exact Or.inl ⟨by rw [va_up_ne _ _ (by omega)]; exact e1, by rw [va_up_ne _ _ (by omega)]; exact e2⟩
        · exact Or.inr ⟨a, s, ha, hal, hs, by rw [va_up_ne _ _ (by omega)]; exact e1, by rw [va_up_ne _ _ (by omega)]; exact e2, q1, q2⟩
  · exact fun j hj => by
        by_cases e : j = law
        · exact Or.inr ⟨t, ht, by subst e; exact va_up_self _ _ _⟩
        · rcases H.ti j hj with e2 | ⟨t2, ht2, e2⟩
          · exact Or.inl (by rw [va_up_ne _ _ (by omega)]; exact e2)
          · exact Or.inr ⟨t2, ht2, by rw [va_up_ne _ _ (by omega)]; exact e2⟩
  · exact ⟨fun z => absurd (H.lw.mp z law hl) hn, fun h => by
        have q := h law hl; rw [va_up_self] at q; exact absurd q (nI_m1 (by omega))⟩
def OKw (D : Nat → Int32) (c : Nat) : Prop := (c ≤ 40) ∧ (D 0 = nI c) ∧ (∀ k, k < c → ∃ u, u < 4 ∧ D (1 + 3 * k) = nI u ∧ ((u = 3 ∧ D (2 + 3 * k) = -1 ∧ D (3 + 3 * k) = -1) ∨ (¬ u = 3 ∧ (∃ a, a < 10 ∧ D (2 + 3 * k) = nI a) ∧ ((u = 1 ∧ ∃ h, h < 6 ∧ D (3 + 3 * k) = nI h) ∨ (¬ u = 1 ∧ D (3 + 3 * k) = -1)))))
theorem OKw.mk {D : Nat → Int32} {c : Nat} (c40_9 : c ≤ 40) (d0_9 : D 0 = nI c) (r_9 : ∀ k, k < c → ∃ u, u < 4 ∧ D (1 + 3 * k) = nI u ∧ ((u = 3 ∧ D (2 + 3 * k) = -1 ∧ D (3 + 3 * k) = -1) ∨ (¬ u = 3 ∧ (∃ a, a < 10 ∧ D (2 + 3 * k) = nI a) ∧ ((u = 1 ∧ ∃ h, h < 6 ∧ D (3 + 3 * k) = nI h) ∨ (¬ u = 1 ∧ D (3 + 3 * k) = -1))))) : OKw D c := ⟨c40_9, d0_9, r_9⟩
theorem OKw.c40 {D : Nat → Int32} {c : Nat} (h : OKw D c) : c ≤ 40 := h.1
theorem OKw.d0 {D : Nat → Int32} {c : Nat} (h : OKw D c) : D 0 = nI c := h.2.1
theorem OKw.r {D : Nat → Int32} {c : Nat} (h : OKw D c) : ∀ k, k < c → ∃ u, u < 4 ∧ D (1 + 3 * k) = nI u ∧ ((u = 3 ∧ D (2 + 3 * k) = -1 ∧ D (3 + 3 * k) = -1) ∨ (¬ u = 3 ∧ (∃ a, a < 10 ∧ D (2 + 3 * k) = nI a) ∧ ((u = 1 ∧ ∃ h, h < 6 ∧ D (3 + 3 * k) = nI h) ∨ (¬ u = 1 ∧ D (3 + 3 * k) = -1)))) := h.2.2
def OKg (D : Nat → Int32) (c : Nat) : Prop := (c ≤ 8) ∧ (D 0 = nI c) ∧ (∀ k, k < c → (∃ h, h < 6 ∧ D (1 + 2 * k) = nI h) ∧ ∃ m, m ≤ 99 ∧ D (2 + 2 * k) = nI m)
theorem OKg.mk {D : Nat → Int32} {c : Nat} (c8_9 : c ≤ 8) (d0_9 : D 0 = nI c) (r_9 : ∀ k, k < c → (∃ h, h < 6 ∧ D (1 + 2 * k) = nI h) ∧ ∃ m, m ≤ 99 ∧ D (2 + 2 * k) = nI m) : OKg D c := ⟨c8_9, d0_9, r_9⟩
theorem OKg.c8 {D : Nat → Int32} {c : Nat} (h : OKg D c) : c ≤ 8 := h.1
theorem OKg.d0 {D : Nat → Int32} {c : Nat} (h : OKg D c) : D 0 = nI c := h.2.1
theorem OKg.r {D : Nat → Int32} {c : Nat} (h : OKg D c) : ∀ k, k < c → (∃ h, h < 6 ∧ D (1 + 2 * k) = nI h) ∧ ∃ m, m ≤ 99 ∧ D (2 + 2 * k) = nI m := h.2.2
theorem ok_w {D : Nat → Int32} {c u : Nat} {y z : Int32} (H : OKw D c) (hc : c < 40) (hu : u < 4) (h : (u = 3 ∧ y = -1 ∧ z = -1) ∨ (¬ u = 3 ∧ (∃ a, a < 10 ∧ y = nI a) ∧ ((u = 1 ∧ ∃ h, h < 6 ∧ z = nI h) ∨ (¬ u = 1 ∧ z = -1)))) : OKw (wkU D c (nI u) y z) (c + 1) := by
  refine OKw.mk hc (va_up_self _ _ _) (fun k hk => ?_)
  by_cases e : k = c
  · subst e
    have e1 : wkU D k (nI u) y z (1 + 3 * k) = nI u := by unfold wkU; rw [va_up_ne _ _ (by omega), va_up_ne _ _ (by omega), va_up_ne _ _ (by omega), va_up_self]
    have e2 : wkU D k (nI u) y z (2 + 3 * k) = y := by unfold wkU; rw [va_up_ne _ _ (by omega), va_up_ne _ _ (by omega), va_up_self]
    have e3 : wkU D k (nI u) y z (3 + 3 * k) = z := by unfold wkU; rw [va_up_ne _ _ (by omega), va_up_self]
    rw [e1, e2, e3]
    exact ⟨u, hu, rfl, h⟩
  · have e1 : wkU D c (nI u) y z (1 + 3 * k) = D (1 + 3 * k) := by unfold wkU; rw [va_up_ne _ _ (by omega), va_up_ne _ _ (by omega), va_up_ne _ _ (by omega), va_up_ne _ _ (by omega)]
    have e2 : wkU D c (nI u) y z (2 + 3 * k) = D (2 + 3 * k) := by unfold wkU; rw [va_up_ne _ _ (by omega), va_up_ne _ _ (by omega), va_up_ne _ _ (by omega), va_up_ne _ _ (by omega)]
    have e3 : wkU D c (nI u) y z (3 + 3 * k) = D (3 + 3 * k) := by unfold wkU; rw [va_up_ne _ _ (by omega), va_up_ne _ _ (by omega), va_up_ne _ _ (by omega), va_up_ne _ _ (by omega)]
    rw [e1, e2, e3]
    exact H.r k (by omega)
theorem ok_g {D : Nat → Int32} {c h m : Nat} (H : OKg D c) (hc : c < 8) (hh : h < 6) (hm : m ≤ 99) : OKg (lgU D c (nI h) (nI m)) (c + 1) := by
  refine OKg.mk hc (va_up_self _ _ _) (fun k hk => ?_)
  by_cases e : k = c
  · subst e
    exact ⟨⟨h, hh, by unfold lgU; rw [va_up_ne _ _ (by omega), va_up_ne _ _ (by omega), va_up_self]⟩, ⟨m, hm, by unfold lgU; rw [va_up_ne _ _ (by omega), va_up_self]⟩⟩
  · obtain ⟨⟨h2, hh2, e1⟩, ⟨m2, hm2, e2⟩⟩ := H.r k (by omega)
    exact ⟨⟨h2, hh2, by unfold lgU; rw [va_up_ne _ _ (by omega), va_up_ne _ _ (by omega), va_up_ne _ _ (by omega)]; exact e1⟩, ⟨m2, hm2, by unfold lgU; rw [va_up_ne _ _ (by omega), va_up_ne _ _ (by omega), va_up_ne _ _ (by omega)]; exact e2⟩⟩
