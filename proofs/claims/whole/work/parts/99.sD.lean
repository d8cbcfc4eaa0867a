theorem tm_law {x y u v : Int32} {a : Nat} (hx : x = nI a) (hy : y = nI a) (h : a ≤ 8) (hu : u = v) : decide (y = nI 8 ∧ v = -1) = true ↔ ¬ (if x < nI 8 then (0 : Int32) else if u = -1 then 1 else 0) = 0 := by
  rw [hx, hy, hu, decide_eq_true_iff, nI_eq (by omega) (by omega)]
  constructor
  · intro e; rw [if_neg (fun q => by rw [nI_ltI (by omega) (by omega)] at q; omega), if_pos e.2]; decide
  · intro e
    by_cases c : a < 8
    · exact absurd (if_pos ((nI_ltI (by omega) (by omega)).mpr c)) e
    · rw [if_neg (fun q => c ((nI_ltI (by omega) (by omega)).mp q))] at e
      by_cases c2 : v = -1
      · exact ⟨by omega, c2⟩
      · exact absurd (if_neg c2) e
theorem tm_lw {x u : Int32} {a : Nat} (hx : x = nI a) (ha : a < 100) (hu : u = -1) (h : (if x < nI 8 then (0 : Int32) else if u = -1 then 1 else 0) = 0) : a < 8 := by
  by_cases c : x < nI 8
  · rw [hx, nI_ltI (by omega) (by omega)] at c; exact c
  · rw [if_neg c, if_pos hu] at h; exact absurd h (by decide)
theorem fxF_o {F : Nat → Int32} {x : Nat × Nat} {k : Nat} (h3 : k ≠ 3) (h4 : k ≠ 4) : fxF F x k = F k := by
  unfold fxF
  by_cases c : x.1 = 0
  · rw [if_pos c]
  · rw [if_neg c, va_up_ne _ _ h4, va_up_ne _ _ h3]
theorem fx_0 {F : Nat → Int32} {x : Nat × Nat} (h5 : x.1 < 5) (h : fxF F x 3 = 0) : x.1 = 0 := by
  by_cases c : x.1 = 0
  · exact c
  · unfold fxF at h
    rw [if_neg c, va_up_ne _ _ (by decide), va_up_self, show (0 : Int32) = nI 0 from rfl, nI_eq (by omega) (by omega)] at h
    exact h
theorem CR_ft {of : Nat} {st : TS} {A : mI} {F T : Nat → Int32} {len l b e : Nat} (hC : CR of st A F) (z : st.f = 0) (hf : ¬ (fcL (tmA T len l e st.D) b (nuA T len l e)).1 = 0) : CR of (stA T len l b e st) A (fxF F (fcL (tmA T len l e st.D) b (nuA T len l e))) := by
  rw [show stA T len l b e st = ⟨(fcL (tmA T len l e st.D) b (nuA T len l e)).1, (fcL (tmA T len l e st.D) b (nuA T len l e)).2, st.gh, st.gl, st.D⟩ by unfold stA; rw [if_pos z, if_neg hf]]
  refine CR.mk fcL_le ?_ ?_ ((fxF_o (by decide) (by decide)).trans hC.gh) ((fxF_o (by decide) (by decide)).trans hC.gl) hC.da
  · unfold fxF; rw [if_neg hf, va_up_ne _ _ (by decide), va_up_self]
  · show _ = (if (fcL (tmA T len l e st.D) b (nuA T len l e)).1 = 0 then _ else _)
    unfold fxF; rw [if_neg hf, if_neg hf, va_up_self]
theorem CR_te {of : Nat} {st : TS} {A A2 : mI} {F F2 T : Nat → Int32} {len l b e : Nat} (hC : CR of st A F) (z : st.f = 0) (hf : (fcL (tmA T len l e st.D) b (nuA T len l e)).1 = 0) (h3 : F2 3 = F 3) (h4 : F2 4 = F 4) (h16 : F2 16 = (teA T len l e st.gh st.gl st.D).1) (h17 : F2 17 = (teA T len l e st.gh st.gl st.D).2.1) (hd : dR of A2 (teA T len l e st.gh st.gl st.D).2.2) : CR of (stA T len l b e st) A2 F2 := by
  rw [show stA T len l b e st = ⟨0, st.pl, (teA T len l e st.gh st.gl st.D).1, (teA T len l e st.gh st.gl st.D).2.1, (teA T len l e st.gh st.gl st.D).2.2⟩ by unfold stA; rw [if_pos z, if_pos hf]]
  refine CR.mk (show 0 < 5 by decide) ?_ ?_ h16 h17 hd
  · rw [h3, hC.f3, z]
  · rw [h4, hC.f4, if_pos z]; rfl
theorem tm_eq {x y : Int32} {a k : Nat} (hx : x = nI a) (hy : y = nI a) (h : a ≤ k) (hk : k < 100) : decide (y = nI k) = true ↔ ¬ (if x < nI k then (0 : Int32) else 1) = 0 := by
  rw [hx, hy, decide_eq_true_iff, nI_eq (by omega) (by omega)]
  constructor
  · intro e; rw [if_neg (fun q => by rw [nI_ltI (by omega) (by omega)] at q; omega)]; decide
  · intro e
    by_cases c : a < k
    · exact absurd (if_pos ((nI_ltI (by omega) (by omega)).mpr c)) e
    · omega
theorem tm_lt {x : Int32} {a k : Nat} (hx : x = nI a) (ha : a < 100) (hk : k < 100) (h : (if x < nI k then (0 : Int32) else 1) = 0) : a < k := by
  by_cases c : x < nI k
  · rw [hx, nI_ltI (by omega) (by omega)] at c; exact c
  · rw [if_neg c] at h; exact absurd h (by decide)
theorem nb_hi {l k v hi : Nat} {N : Nat → Int32} (hN : N k = nI v) (hv : v < 100) (h2 : m_most.getD (3 * l + k) 0 = nI hi) (hhi : hi < 100) (h : nbP l N k) : v ≤ hi := by
  have q := h.2.2
  rw [hN, h2, nI_ltI (by omega) (by omega)] at q
  omega
theorem g17_l {x g y : Int32} {a b : Nat} (h1 : x = g) (h2 : y = nI b) (ha : a < 100) (hb : b < 100) : (if x < (if nI a < y then y else nI a) then (if nI a < y then y else nI a) else x) = mxI (mxI g a) b := by
  rw [h1, h2]; exact mx_mx ha hb
theorem tlw_o {A : mI} {law a : Nat} {x : Int32} (h1 : a ≠ 41) (h2 : a ≠ 49) : tlwI A law x a = A a := by
  unfold tlwI
  by_cases c : A 49 law = -1
  · rw [if_pos c, m_up_ne h2, m_up_ne h1]
  · rw [if_neg c, m_up_ne h2]
theorem c_line0 {S : Nat × (Nat → Int32)} {d n : Nat} {I : mI} {J : mJ} {R : mR} (hn : 122 ≤ n) (hR : m_fin R) (hRt : R 40 5 = some 2) {F K N P : Nat → Int32} {len : Nat} (hlen : F 6 = nI len) (hl6 : len ≤ 600) {p : Nat} (hp : p ≤ len) (h7 : F 7 = nI (tkS (I 2) len p)) (h8 : F 8 = nI (tkB (I 2) len p)) (h9 : F 9 = nI (tkE (I 2) len p)) {st : TS} (hC : CR 0 st I F) (hln : lA (I 2) len 0 p = nI 0) {Q : Option Value → mI → mJ → mR → Prop} (hQ0 : (ms (I 2) len (shA 0) (tkE (I 2) len p)).1 = false → ∀ F' K' N' P', F' 8 = nI (tkB (I 2) len (ms (I 2) len (shA 0) (tkE (I 2) len p)).2) → Q (some (.int 0)) (rM I F' K' N' P') J R) (hQ1 : (ms (I 2) len (shA 0) (tkE (I 2) len p)).1 = true → ∀ A F' K' N' P', (∀ a, a < 41 ∨ 56 < a → A a = I a) → F' 6 = nI len → F' 9 = nI (tkE (I 2) len (ms (I 2) len (shA 0) (tkE (I 2) len p)).2) → CR 0 (stA (I 2) len 0 (tkB (I 2) len p) (tkE (I 2) len p) st) A F' → Q (some (.int 1)) (rM A F' K' N' P') J R) : AW S (d + 7) YReader_readLine n n Q 0 [(0, .ref 40), (1, .int (nI 0))] [] (m_row (m_row (m_row (m_row I 40 F) 57 K) 58 N) 59 P) J R n := by
  have hb := tkB_le (T := I 2) hp
  have he := tkE_le (T := I 2) hp
  have hm : (ms (I 2) len (shA 0) (tkE (I 2) len p)) = if (rlX (I 2) len 9 1 (tkE (I 2) len p) K N P).1 = true then (decide (tkS (I 2) len (rlX (I 2) len 9 1 (tkE (I 2) len p) K N P).2.1 = 3), (rlX (I 2) len 9 1 (tkE (I 2) len p) K N P).2.1) else (false, (rlX (I 2) len 9 1 (tkE (I 2) len p) K N P).2.1) := shF_ms (T := I 2) (len := len) (i := 9) (shA 0) 0 (tkE (I 2) len p) (0, 0, K, N, P) (by decide)
  refine r_line0 hn hR hRt hlen hl6 h7 h8 h9 tkS_le he.1 he.2 hln (fun h => ?_) (fun ho hst => ?_)
  · have hq : (ms (I 2) len (shA 0) (tkE (I 2) len p)) = (false, (rlX (I 2) len 9 1 (tkE (I 2) len p) K N P).2.1) := by
      rw [hm]
      by_cases c : (rlX (I 2) len 9 1 (tkE (I 2) len p) K N P).1 = true
      · rw [if_pos c, decide_eq_false (h.resolve_left (by rw [c]; decide))]
      · rw [if_neg c]
    exact hQ0 (by rw [hq]) _ _ _ _ (by rw [hq]; rfl)
  · obtain ⟨t0, hX⟩ := rx9 ho
    have hq : (ms (I 2) len (shA 0) (tkE (I 2) len p)) = (true, (tkE (I 2) len (tkE (I 2) len p))) := by rw [hm, if_pos ho, decide_eq_true hst, hX]
    have hM : rlM I F (tkB (I 2) len p) len (rlX (I 2) len 9 1 (tkE (I 2) len p) K N P) = (rM I (fK (va_up F 10 (nI (tkB (I 2) len p))) (tkS (I 2) len (tkE (I 2) len (tkE (I 2) len p))) (tkB (I 2) len (tkE (I 2) len (tkE (I 2) len p))) (tkE (I 2) len (tkE (I 2) len (tkE (I 2) len p))) 0 1) K (va_up N 0 (nW (I 2) len (tkE (I 2) len p))) (va_up P 0 (nI (tkB (I 2) len (tkE (I 2) len p))))) := by rw [hX]
    refine a_mem hM ?_
    clear hM hm
    have hCF : CR 0 st I (fK (va_up F 10 (nI (tkB (I 2) len p))) (tkS (I 2) len (tkE (I 2) len (tkE (I 2) len p))) (tkB (I 2) len (tkE (I 2) len (tkE (I 2) len p))) (tkE (I 2) len (tkE (I 2) len (tkE (I 2) len p))) 0 1) := CR_F hC rfl rfl rfl rfl
    have q0 : (tkE (I 2) len p) ≤ len := he.2
    have q1 : (tkE (I 2) len (tkE (I 2) len p)) ≤ len := (tkE_le (T := I 2) q0).2
    have v0 := vN_of q0 t0
    have hN0 : (va_up N 0 (nW (I 2) len (tkE (I 2) len p))) 0 = nI (vN (I 2) len (tkE (I 2) len p)) := v0.2
    obtain ⟨nl, nw, H⟩ := (show ∃ nl nw, OD I 41 st.D nl nw from hC.da)
    have h10 := H.l10
    have hw8 := H.w8
    have ht : (tmA (I 2) len 0 (tkE (I 2) len p) st.D) = true ↔ ¬ tmV I (4 * 0 + 0) 0 = 0 := ⟨fun h => absurd (show false = true from h) (by decide), fun h => absurd (show tmV I (4 * 0 + 0) 0 = 0 from rfl) h⟩
    have hok : okL 0 (va_up N 0 (nW (I 2) len (tkE (I 2) len p))) (va_up P 0 (nI (tkB (I 2) len (tkE (I 2) len p)))) 0 (nuA (I 2) len 0 (tkE (I 2) len p)) := (And.intro (And.intro (bd_nb (l := 0) (k := 0) (lo := 1) (hi := 6) hN0 v0.1 (by decide) (by decide) (by decide) (by decide) (by decide)) rfl) trivial)
    have hnf : st.f = 0 → (nfF I (4 * 0 + 0) 0 1 (va_up N 0 (nW (I 2) len (tkE (I 2) len p))) (va_up P 0 (nI (tkB (I 2) len (tkE (I 2) len p)))) (fK (va_up F 10 (nI (tkB (I 2) len p))) (tkS (I 2) len (tkE (I 2) len (tkE (I 2) len p))) (tkB (I 2) len (tkE (I 2) len (tkE (I 2) len p))) (tkE (I 2) len (tkE (I 2) len (tkE (I 2) len p))) 0 1)) = fxF (fK (va_up F 10 (nI (tkB (I 2) len p))) (tkS (I 2) len (tkE (I 2) len (tkE (I 2) len p))) (tkB (I 2) len (tkE (I 2) len (tkE (I 2) len p))) (tkE (I 2) len (tkE (I 2) len (tkE (I 2) len p))) 0 1) (fcL (tmA (I 2) len 0 (tkE (I 2) len p) st.D) (tkB (I 2) len p) (nuA (I 2) len 0 (tkE (I 2) len p))) := fun z => nfF_fc (L := (nuA (I 2) len 0 (tkE (I 2) len p))) ((CR_z hCF).mpr z) rfl ht hok
    have hB : (nfF I (4 * 0 + 0) 0 1 (va_up N 0 (nW (I 2) len (tkE (I 2) len p))) (va_up P 0 (nI (tkB (I 2) len (tkE (I 2) len p)))) (fK (va_up F 10 (nI (tkB (I 2) len p))) (tkS (I 2) len (tkE (I 2) len (tkE (I 2) len p))) (tkB (I 2) len (tkE (I 2) len (tkE (I 2) len p))) (tkE (I 2) len (tkE (I 2) len (tkE (I 2) len p))) 0 1)) 3 = 0 → True := fun h => trivial
    refine r_end0 (k0 := 0) (k1 := 0) (nt := 1) (K := K) (N := (va_up N 0 (nW (I 2) len (tkE (I 2) len p)))) (P := (va_up P 0 (nI (tkB (I 2) len (tkE (I 2) len p))))) (F := (fK (va_up F 10 (nI (tkB (I 2) len p))) (tkS (I 2) len (tkE (I 2) len (tkE (I 2) len p))) (tkB (I 2) len (tkE (I 2) len (tkE (I 2) len p))) (tkE (I 2) len (tkE (I 2) len (tkE (I 2) len p))) 0 1)) hn hR (by decide) rfl  hB (fun h => ?_) (fun h => ?_)
    · by_cases z : st.f = 0
      · have hf : ¬ (fcL (tmA (I 2) len 0 (tkE (I 2) len p) st.D) (tkB (I 2) len p) (nuA (I 2) len 0 (tkE (I 2) len p))).1 = 0 := fun q => h (by rw [hnf z]; unfold fxF; rw [if_pos q]; exact (CR_z hCF).mpr z)
        rw [hnf z]
        exact hQ1 (by rw [hq]) I _ _ _ _ (fun _ _ => rfl) ((fxF_o (by decide) (by decide)).trans hlen) (by rw [hq]; exact (fxF_o (by decide) (by decide))) (CR_ft hCF z hf)
      · have e9 : (nfF I (4 * 0 + 0) 0 1 (va_up N 0 (nW (I 2) len (tkE (I 2) len p))) (va_up P 0 (nI (tkB (I 2) len (tkE (I 2) len p)))) (fK (va_up F 10 (nI (tkB (I 2) len p))) (tkS (I 2) len (tkE (I 2) len (tkE (I 2) len p))) (tkB (I 2) len (tkE (I 2) len (tkE (I 2) len p))) (tkE (I 2) len (tkE (I 2) len (tkE (I 2) len p))) 0 1)) = (fK (va_up F 10 (nI (tkB (I 2) len p))) (tkS (I 2) len (tkE (I 2) len (tkE (I 2) len p))) (tkB (I 2) len (tkE (I 2) len (tkE (I 2) len p))) (tkE (I 2) len (tkE (I 2) len (tkE (I 2) len p))) 0 1) := nfF_id (fun q => z ((CR_z hCF).mp q))
        rw [e9]
        refine hQ1 (by rw [hq]) I _ _ _ _ (fun _ _ => rfl) hlen (by rw [hq]; rfl) ?_
        rw [show (stA (I 2) len 0 (tkB (I 2) len p) (tkE (I 2) len p) st) = st by unfold stA; rw [if_neg z]]
        exact hCF
    · have z : st.f = 0 := (CR_z hCF).mp (nfF_0 h).2.1
      have hf : (fcL (tmA (I 2) len 0 (tkE (I 2) len p) st.D) (tkB (I 2) len p) (nuA (I 2) len 0 (tkE (I 2) len p))).1 = 0 := fx_0 fcL_le (by rw [← hnf z]; exact h)
      exact hQ1 (by rw [hq]) _ _ _ _ _ (fun a ha => by rw [m_up_ne (by omega)]) hlen (by rw [hq]; rfl) (CR_te hCF z hf rfl rfl hC.gh hC.gl (by show ∃ nl nw, OD (m_up I 41 0 ((va_up N 0 (nW (I 2) len (tkE (I 2) len p))) 0)) 41 (va_up st.D 0 (nI (vN (I 2) len (tkE (I 2) len p)))) nl nw; rw [hN0]; exact ⟨nl, nw, od_0 H⟩))
theorem c_line1 {S : Nat × (Nat → Int32)} {d n : Nat} {I : mI} {J : mJ} {R : mR} (hn : 122 ≤ n) (hR : m_fin R) (hRt : R 40 5 = some 2) {F K N P : Nat → Int32} {len : Nat} (hlen : F 6 = nI len) (hl6 : len ≤ 600) {p : Nat} (hp : p ≤ len) (h7 : F 7 = nI (tkS (I 2) len p)) (h8 : F 8 = nI (tkB (I 2) len p)) (h9 : F 9 = nI (tkE (I 2) len p)) {st : TS} (hC : CR 0 st I F) (hln : lA (I 2) len 0 p = nI 1) {Q : Option Value → mI → mJ → mR → Prop} (hQ0 : (ms (I 2) len (shA 1) (tkE (I 2) len p)).1 = false → ∀ F' K' N' P', F' 8 = nI (tkB (I 2) len (ms (I 2) len (shA 1) (tkE (I 2) len p)).2) → Q (some (.int 0)) (rM I F' K' N' P') J R) (hQ1 : (ms (I 2) len (shA 1) (tkE (I 2) len p)).1 = true → ∀ A F' K' N' P', (∀ a, a < 41 ∨ 56 < a → A a = I a) → F' 6 = nI len → F' 9 = nI (tkE (I 2) len (ms (I 2) len (shA 1) (tkE (I 2) len p)).2) → CR 0 (stA (I 2) len 1 (tkB (I 2) len p) (tkE (I 2) len p) st) A F' → Q (some (.int 1)) (rM A F' K' N' P') J R) : AW S (d + 7) YReader_readLine n n Q 0 [(0, .ref 40), (1, .int (nI 0))] [] (m_row (m_row (m_row (m_row I 40 F) 57 K) 58 N) 59 P) J R n := by
  have hb := tkB_le (T := I 2) hp
  have he := tkE_le (T := I 2) hp
  have hm : (ms (I 2) len (shA 1) (tkE (I 2) len p)) = if (rlX (I 2) len 14 2 (tkE (I 2) len p) K N P).1 = true then (decide (tkS (I 2) len (rlX (I 2) len 14 2 (tkE (I 2) len p) K N P).2.1 = 3), (rlX (I 2) len 14 2 (tkE (I 2) len p) K N P).2.1) else (false, (rlX (I 2) len 14 2 (tkE (I 2) len p) K N P).2.1) := shF_ms (T := I 2) (len := len) (i := 14) (shA 1) 0 (tkE (I 2) len p) (0, 0, K, N, P) (by decide)
  refine r_line1 hn hR hRt hlen hl6 h7 h8 h9 tkS_le he.1 he.2 hln (fun h => ?_) (fun ho hst => ?_)
  · have hq : (ms (I 2) len (shA 1) (tkE (I 2) len p)) = (false, (rlX (I 2) len 14 2 (tkE (I 2) len p) K N P).2.1) := by
      rw [hm]
      by_cases c : (rlX (I 2) len 14 2 (tkE (I 2) len p) K N P).1 = true
      · rw [if_pos c, decide_eq_false (h.resolve_left (by rw [c]; decide))]
      · rw [if_neg c]
    exact hQ0 (by rw [hq]) _ _ _ _ (by rw [hq]; rfl)
  · obtain ⟨t0, t1, hX⟩ := rx14 ho
    have hq : (ms (I 2) len (shA 1) (tkE (I 2) len p)) = (true, (tkE (I 2) len (tkE (I 2) len (tkE (I 2) len p)))) := by rw [hm, if_pos ho, decide_eq_true hst, hX]
    have hM : rlM I F (tkB (I 2) len p) len (rlX (I 2) len 14 2 (tkE (I 2) len p) K N P) = (rM I (fK (va_up F 10 (nI (tkB (I 2) len p))) (tkS (I 2) len (tkE (I 2) len (tkE (I 2) len (tkE (I 2) len p)))) (tkB (I 2) len (tkE (I 2) len (tkE (I 2) len (tkE (I 2) len p)))) (tkE (I 2) len (tkE (I 2) len (tkE (I 2) len (tkE (I 2) len p)))) 0 2) K (va_up (va_up N 0 (nW (I 2) len (tkE (I 2) len p))) 1 (nW (I 2) len (tkE (I 2) len (tkE (I 2) len p)))) (va_up (va_up P 0 (nI (tkB (I 2) len (tkE (I 2) len p)))) 1 (nI (tkB (I 2) len (tkE (I 2) len (tkE (I 2) len p)))))) := by rw [hX]
    refine a_mem hM ?_
    clear hM hm
    have hCF : CR 0 st I (fK (va_up F 10 (nI (tkB (I 2) len p))) (tkS (I 2) len (tkE (I 2) len (tkE (I 2) len (tkE (I 2) len p)))) (tkB (I 2) len (tkE (I 2) len (tkE (I 2) len (tkE (I 2) len p)))) (tkE (I 2) len (tkE (I 2) len (tkE (I 2) len (tkE (I 2) len p)))) 0 2) := CR_F hC rfl rfl rfl rfl
    have q0 : (tkE (I 2) len p) ≤ len := he.2
    have q1 : (tkE (I 2) len (tkE (I 2) len p)) ≤ len := (tkE_le (T := I 2) q0).2
    have q2 : (tkE (I 2) len (tkE (I 2) len (tkE (I 2) len p))) ≤ len := (tkE_le (T := I 2) q1).2
    have v0 := vN_of q0 t0
    have hN0 : (va_up (va_up N 0 (nW (I 2) len (tkE (I 2) len p))) 1 (nW (I 2) len (tkE (I 2) len (tkE (I 2) len p)))) 0 = nI (vN (I 2) len (tkE (I 2) len p)) := v0.2
    have v1 := vN_of q1 t1
    have hN1 : (va_up (va_up N 0 (nW (I 2) len (tkE (I 2) len p))) 1 (nW (I 2) len (tkE (I 2) len (tkE (I 2) len p)))) 1 = nI (vN (I 2) len (tkE (I 2) len (tkE (I 2) len p))) := v1.2
    obtain ⟨nl, nw, H⟩ := (show ∃ nl nw, OD I 41 st.D nl nw from hC.da)
    have h10 := H.l10
    have hw8 := H.w8
    have ht : (tmA (I 2) len 1 (tkE (I 2) len p) st.D) = true ↔ ¬ tmV I (4 * 0 + 0) 1 = 0 := ⟨fun h => absurd (show false = true from h) (by decide), fun h => absurd (show tmV I (4 * 0 + 0) 1 = 0 from rfl) h⟩
    have hok : okL 1 (va_up (va_up N 0 (nW (I 2) len (tkE (I 2) len p))) 1 (nW (I 2) len (tkE (I 2) len (tkE (I 2) len p)))) (va_up (va_up P 0 (nI (tkB (I 2) len (tkE (I 2) len p)))) 1 (nI (tkB (I 2) len (tkE (I 2) len (tkE (I 2) len p))))) 0 (nuA (I 2) len 1 (tkE (I 2) len p)) := (And.intro (And.intro (bd_nb (l := 1) (k := 0) (lo := 0) (hi := 5) hN0 v0.1 (by decide) (by decide) (by decide) (by decide) (by decide)) rfl) (And.intro (And.intro (bd_nb (l := 1) (k := 1) (lo := 0) (hi := 50) hN1 v1.1 (by decide) (by decide) (by decide) (by decide) (by decide)) rfl) trivial))
    have hnf : st.f = 0 → (nfF I (4 * 0 + 0) 1 2 (va_up (va_up N 0 (nW (I 2) len (tkE (I 2) len p))) 1 (nW (I 2) len (tkE (I 2) len (tkE (I 2) len p)))) (va_up (va_up P 0 (nI (tkB (I 2) len (tkE (I 2) len p)))) 1 (nI (tkB (I 2) len (tkE (I 2) len (tkE (I 2) len p))))) (fK (va_up F 10 (nI (tkB (I 2) len p))) (tkS (I 2) len (tkE (I 2) len (tkE (I 2) len (tkE (I 2) len p)))) (tkB (I 2) len (tkE (I 2) len (tkE (I 2) len (tkE (I 2) len p)))) (tkE (I 2) len (tkE (I 2) len (tkE (I 2) len (tkE (I 2) len p)))) 0 2)) = fxF (fK (va_up F 10 (nI (tkB (I 2) len p))) (tkS (I 2) len (tkE (I 2) len (tkE (I 2) len (tkE (I 2) len p)))) (tkB (I 2) len (tkE (I 2) len (tkE (I 2) len (tkE (I 2) len p)))) (tkE (I 2) len (tkE (I 2) len (tkE (I 2) len (tkE (I 2) len p)))) 0 2) (fcL (tmA (I 2) len 1 (tkE (I 2) len p) st.D) (tkB (I 2) len p) (nuA (I 2) len 1 (tkE (I 2) len p))) := fun z => nfF_fc (L := (nuA (I 2) len 1 (tkE (I 2) len p))) ((CR_z hCF).mpr z) rfl ht hok
    have hB : (nfF I (4 * 0 + 0) 1 2 (va_up (va_up N 0 (nW (I 2) len (tkE (I 2) len p))) 1 (nW (I 2) len (tkE (I 2) len (tkE (I 2) len p)))) (va_up (va_up P 0 (nI (tkB (I 2) len (tkE (I 2) len p)))) 1 (nI (tkB (I 2) len (tkE (I 2) len (tkE (I 2) len p))))) (fK (va_up F 10 (nI (tkB (I 2) len p))) (tkS (I 2) len (tkE (I 2) len (tkE (I 2) len (tkE (I 2) len p)))) (tkB (I 2) len (tkE (I 2) len (tkE (I 2) len (tkE (I 2) len p)))) (tkE (I 2) len (tkE (I 2) len (tkE (I 2) len (tkE (I 2) len p)))) 0 2)) 3 = 0 → (vN (I 2) len (tkE (I 2) len p)) < 6 := fun h => Nat.lt_succ_of_le (nb_hi (hi := 5) hN0 v0.1 (by decide) (by decide) ((nfF_0 h).2.2.2 0 (by decide)))
    refine r_end1 (k0 := 0) (k1 := 0) (nt := 2) (K := K) (N := (va_up (va_up N 0 (nW (I 2) len (tkE (I 2) len p))) 1 (nW (I 2) len (tkE (I 2) len (tkE (I 2) len p))))) (P := (va_up (va_up P 0 (nI (tkB (I 2) len (tkE (I 2) len p)))) 1 (nI (tkB (I 2) len (tkE (I 2) len (tkE (I 2) len p)))))) (F := (fK (va_up F 10 (nI (tkB (I 2) len p))) (tkS (I 2) len (tkE (I 2) len (tkE (I 2) len (tkE (I 2) len p)))) (tkB (I 2) len (tkE (I 2) len (tkE (I 2) len (tkE (I 2) len p)))) (tkE (I 2) len (tkE (I 2) len (tkE (I 2) len (tkE (I 2) len p)))) 0 2)) hn hR (by decide) rfl hN0 hB (fun h => ?_) (fun h => ?_)
    · by_cases z : st.f = 0
      · have hf : ¬ (fcL (tmA (I 2) len 1 (tkE (I 2) len p) st.D) (tkB (I 2) len p) (nuA (I 2) len 1 (tkE (I 2) len p))).1 = 0 := fun q => h (by rw [hnf z]; unfold fxF; rw [if_pos q]; exact (CR_z hCF).mpr z)
        rw [hnf z]
        exact hQ1 (by rw [hq]) I _ _ _ _ (fun _ _ => rfl) ((fxF_o (by decide) (by decide)).trans hlen) (by rw [hq]; exact (fxF_o (by decide) (by decide))) (CR_ft hCF z hf)
      · have e9 : (nfF I (4 * 0 + 0) 1 2 (va_up (va_up N 0 (nW (I 2) len (tkE (I 2) len p))) 1 (nW (I 2) len (tkE (I 2) len (tkE (I 2) len p)))) (va_up (va_up P 0 (nI (tkB (I 2) len (tkE (I 2) len p)))) 1 (nI (tkB (I 2) len (tkE (I 2) len (tkE (I 2) len p))))) (fK (va_up F 10 (nI (tkB (I 2) len p))) (tkS (I 2) len (tkE (I 2) len (tkE (I 2) len (tkE (I 2) len p)))) (tkB (I 2) len (tkE (I 2) len (tkE (I 2) len (tkE (I 2) len p)))) (tkE (I 2) len (tkE (I 2) len (tkE (I 2) len (tkE (I 2) len p)))) 0 2)) = (fK (va_up F 10 (nI (tkB (I 2) len p))) (tkS (I 2) len (tkE (I 2) len (tkE (I 2) len (tkE (I 2) len p)))) (tkB (I 2) len (tkE (I 2) len (tkE (I 2) len (tkE (I 2) len p)))) (tkE (I 2) len (tkE (I 2) len (tkE (I 2) len (tkE (I 2) len p)))) 0 2) := nfF_id (fun q => z ((CR_z hCF).mp q))
        rw [e9]
        refine hQ1 (by rw [hq]) I _ _ _ _ (fun _ _ => rfl) hlen (by rw [hq]; rfl) ?_
        rw [show (stA (I 2) len 1 (tkB (I 2) len p) (tkE (I 2) len p) st) = st by unfold stA; rw [if_neg z]]
        exact hCF
    · have z : st.f = 0 := (CR_z hCF).mp (nfF_0 h).2.1
      have hf : (fcL (tmA (I 2) len 1 (tkE (I 2) len p) st.D) (tkB (I 2) len p) (nuA (I 2) len 1 (tkE (I 2) len p))).1 = 0 := fx_0 fcL_le (by rw [← hnf z]; exact h)
      exact hQ1 (by rw [hq]) _ _ _ _ _ (fun a ha => by rw [m_up_ne (by omega)]) hlen (by rw [hq]; rfl) (CR_te hCF z hf rfl rfl (by show (if F 16 < nI (vN (I 2) len (tkE (I 2) len p)) then nI (vN (I 2) len (tkE (I 2) len p)) else F 16) = mxI st.gh (vN (I 2) len (tkE (I 2) len p)); rw [hC.gh]; rfl) hC.gl (by show ∃ nl nw, OD (m_up I 42 (vN (I 2) len (tkE (I 2) len p)) ((va_up (va_up N 0 (nW (I 2) len (tkE (I 2) len p))) 1 (nW (I 2) len (tkE (I 2) len (tkE (I 2) len p)))) 1)) 41 (va_up st.D (3 + (vN (I 2) len (tkE (I 2) len p))) (nI (vN (I 2) len (tkE (I 2) len (tkE (I 2) len p))))) nl nw; rw [hN1]; exact ⟨nl, nw, od_1 H (hB h)⟩))
theorem c_line2 {S : Nat × (Nat → Int32)} {d n : Nat} {I : mI} {J : mJ} {R : mR} (hn : 122 ≤ n) (hR : m_fin R) (hRt : R 40 5 = some 2) {F K N P : Nat → Int32} {len : Nat} (hlen : F 6 = nI len) (hl6 : len ≤ 600) {p : Nat} (hp : p ≤ len) (h7 : F 7 = nI (tkS (I 2) len p)) (h8 : F 8 = nI (tkB (I 2) len p)) (h9 : F 9 = nI (tkE (I 2) len p)) {st : TS} (hC : CR 0 st I F) (hln : lA (I 2) len 0 p = nI 2) {Q : Option Value → mI → mJ → mR → Prop} (hQ0 : (ms (I 2) len (shA 2) (tkE (I 2) len p)).1 = false → ∀ F' K' N' P', F' 8 = nI (tkB (I 2) len (ms (I 2) len (shA 2) (tkE (I 2) len p)).2) → Q (some (.int 0)) (rM I F' K' N' P') J R) (hQ1 : (ms (I 2) len (shA 2) (tkE (I 2) len p)).1 = true → ∀ A F' K' N' P', (∀ a, a < 41 ∨ 56 < a → A a = I a) → F' 6 = nI len → F' 9 = nI (tkE (I 2) len (ms (I 2) len (shA 2) (tkE (I 2) len p)).2) → CR 0 (stA (I 2) len 2 (tkB (I 2) len p) (tkE (I 2) len p) st) A F' → Q (some (.int 1)) (rM A F' K' N' P') J R) : AW S (d + 7) YReader_readLine n n Q 0 [(0, .ref 40), (1, .int (nI 0))] [] (m_row (m_row (m_row (m_row I 40 F) 57 K) 58 N) 59 P) J R n := by
  have hb := tkB_le (T := I 2) hp
  have he := tkE_le (T := I 2) hp
  have hm : (ms (I 2) len (shA 2) (tkE (I 2) len p)) = if (rlX (I 2) len 10 3 (tkE (I 2) len p) K N P).1 = true then (decide (tkS (I 2) len (rlX (I 2) len 10 3 (tkE (I 2) len p) K N P).2.1 = 3), (rlX (I 2) len 10 3 (tkE (I 2) len p) K N P).2.1) else (false, (rlX (I 2) len 10 3 (tkE (I 2) len p) K N P).2.1) := shF_ms (T := I 2) (len := len) (i := 10) (shA 2) 0 (tkE (I 2) len p) (0, 0, K, N, P) (by decide)
  refine r_line2 hn hR hRt hlen hl6 h7 h8 h9 tkS_le he.1 he.2 hln (fun h => ?_) (fun ho hst => ?_)
  · have hq : (ms (I 2) len (shA 2) (tkE (I 2) len p)) = (false, (rlX (I 2) len 10 3 (tkE (I 2) len p) K N P).2.1) := by
      rw [hm]
      by_cases c : (rlX (I 2) len 10 3 (tkE (I 2) len p) K N P).1 = true
      · rw [if_pos c, decide_eq_false (h.resolve_left (by rw [c]; decide))]
      · rw [if_neg c]
    exact hQ0 (by rw [hq]) _ _ _ _ (by rw [hq]; rfl)
  · obtain ⟨t0, t1, t2, hX⟩ := rx10 ho
    have hq : (ms (I 2) len (shA 2) (tkE (I 2) len p)) = (true, (tkE (I 2) len (tkE (I 2) len (tkE (I 2) len (tkE (I 2) len p))))) := by rw [hm, if_pos ho, decide_eq_true hst, hX]
    have hM : rlM I F (tkB (I 2) len p) len (rlX (I 2) len 10 3 (tkE (I 2) len p) K N P) = (rM I (fK (va_up F 10 (nI (tkB (I 2) len p))) (tkS (I 2) len (tkE (I 2) len (tkE (I 2) len (tkE (I 2) len (tkE (I 2) len p))))) (tkB (I 2) len (tkE (I 2) len (tkE (I 2) len (tkE (I 2) len (tkE (I 2) len p))))) (tkE (I 2) len (tkE (I 2) len (tkE (I 2) len (tkE (I 2) len (tkE (I 2) len p))))) 1 2) (va_up K 0 (kI (I 2) len (tkE (I 2) len (tkE (I 2) len p)))) (va_up (va_up N 0 (nW (I 2) len (tkE (I 2) len p))) 1 (nW (I 2) len (tkE (I 2) len (tkE (I 2) len (tkE (I 2) len p))))) (va_up (va_up P 0 (nI (tkB (I 2) len (tkE (I 2) len p)))) 1 (nI (tkB (I 2) len (tkE (I 2) len (tkE (I 2) len (tkE (I 2) len p))))))) := by rw [hX]
    refine a_mem hM ?_
    clear hM hm
    have hCF : CR 0 st I (fK (va_up F 10 (nI (tkB (I 2) len p))) (tkS (I 2) len (tkE (I 2) len (tkE (I 2) len (tkE (I 2) len (tkE (I 2) len p))))) (tkB (I 2) len (tkE (I 2) len (tkE (I 2) len (tkE (I 2) len (tkE (I 2) len p))))) (tkE (I 2) len (tkE (I 2) len (tkE (I 2) len (tkE (I 2) len (tkE (I 2) len p))))) 1 2) := CR_F hC rfl rfl rfl rfl
    have q0 : (tkE (I 2) len p) ≤ len := he.2
    have q1 : (tkE (I 2) len (tkE (I 2) len p)) ≤ len := (tkE_le (T := I 2) q0).2
    have q2 : (tkE (I 2) len (tkE (I 2) len (tkE (I 2) len p))) ≤ len := (tkE_le (T := I 2) q1).2
    have q3 : (tkE (I 2) len (tkE (I 2) len (tkE (I 2) len (tkE (I 2) len p)))) ≤ len := (tkE_le (T := I 2) q2).2
    have v0 := vN_of q0 t0
    have hN0 : (va_up (va_up N 0 (nW (I 2) len (tkE (I 2) len p))) 1 (nW (I 2) len (tkE (I 2) len (tkE (I 2) len (tkE (I 2) len p))))) 0 = nI (vN (I 2) len (tkE (I 2) len p)) := v0.2
    have w1 := kN_of t1
    have hK0 : (va_up K 0 (kI (I 2) len (tkE (I 2) len (tkE (I 2) len p)))) 0 = nI (kN (I 2) len (tkE (I 2) len (tkE (I 2) len p))) := w1.2
    have v2 := vN_of q2 t2
    have hN1 : (va_up (va_up N 0 (nW (I 2) len (tkE (I 2) len p))) 1 (nW (I 2) len (tkE (I 2) len (tkE (I 2) len (tkE (I 2) len p))))) 1 = nI (vN (I 2) len (tkE (I 2) len (tkE (I 2) len (tkE (I 2) len p)))) := v2.2
    obtain ⟨nl, nw, H⟩ := (show ∃ nl nw, OD I 41 st.D nl nw from hC.da)
    have h10 := H.l10
    have hw8 := H.w8
    have ht : (tmA (I 2) len 2 (tkE (I 2) len p) st.D) = true ↔ ¬ tmV I (4 * (kN (I 2) len (tkE (I 2) len (tkE (I 2) len p))) + 0) 2 = 0 := tm_eq (x := I 41 1) (y := st.D 1) H.a1 H.d1 h10 (by decide)
    have hok : okL 2 (va_up (va_up N 0 (nW (I 2) len (tkE (I 2) len p))) 1 (nW (I 2) len (tkE (I 2) len (tkE (I 2) len (tkE (I 2) len p))))) (va_up (va_up P 0 (nI (tkB (I 2) len (tkE (I 2) len p)))) 1 (nI (tkB (I 2) len (tkE (I 2) len (tkE (I 2) len (tkE (I 2) len p)))))) 0 (nuA (I 2) len 2 (tkE (I 2) len p)) := (And.intro (And.intro (bd_nb (l := 2) (k := 0) (lo := 0) (hi := 5) hN0 v0.1 (by decide) (by decide) (by decide) (by decide) (by decide)) rfl) (And.intro (And.intro (bd_nb (l := 2) (k := 1) (lo := 1) (hi := 9) hN1 v2.1 (by decide) (by decide) (by decide) (by decide) (by decide)) rfl) trivial))
    have hnf : st.f = 0 → (nfF I (4 * (kN (I 2) len (tkE (I 2) len (tkE (I 2) len p))) + 0) 2 2 (va_up (va_up N 0 (nW (I 2) len (tkE (I 2) len p))) 1 (nW (I 2) len (tkE (I 2) len (tkE (I 2) len (tkE (I 2) len p))))) (va_up (va_up P 0 (nI (tkB (I 2) len (tkE (I 2) len p)))) 1 (nI (tkB (I 2) len (tkE (I 2) len (tkE (I 2) len (tkE (I 2) len p)))))) (fK (va_up F 10 (nI (tkB (I 2) len p))) (tkS (I 2) len (tkE (I 2) len (tkE (I 2) len (tkE (I 2) len (tkE (I 2) len p))))) (tkB (I 2) len (tkE (I 2) len (tkE (I 2) len (tkE (I 2) len (tkE (I 2) len p))))) (tkE (I 2) len (tkE (I 2) len (tkE (I 2) len (tkE (I 2) len (tkE (I 2) len p))))) 1 2)) = fxF (fK (va_up F 10 (nI (tkB (I 2) len p))) (tkS (I 2) len (tkE (I 2) len (tkE (I 2) len (tkE (I 2) len (tkE (I 2) len p))))) (tkB (I 2) len (tkE (I 2) len (tkE (I 2) len (tkE (I 2) len (tkE (I 2) len p))))) (tkE (I 2) len (tkE (I 2) len (tkE (I 2) len (tkE (I 2) len (tkE (I 2) len p))))) 1 2) (fcL (tmA (I 2) len 2 (tkE (I 2) len p) st.D) (tkB (I 2) len p) (nuA (I 2) len 2 (tkE (I 2) len p))) := fun z => nfF_fc (L := (nuA (I 2) len 2 (tkE (I 2) len p))) ((CR_z hCF).mpr z) rfl ht hok
    have hB : (nfF I (4 * (kN (I 2) len (tkE (I 2) len (tkE (I 2) len p))) + 0) 2 2 (va_up (va_up N 0 (nW (I 2) len (tkE (I 2) len p))) 1 (nW (I 2) len (tkE (I 2) len (tkE (I 2) len (tkE (I 2) len p))))) (va_up (va_up P 0 (nI (tkB (I 2) len (tkE (I 2) len p)))) 1 (nI (tkB (I 2) len (tkE (I 2) len (tkE (I 2) len (tkE (I 2) len p)))))) (fK (va_up F 10 (nI (tkB (I 2) len p))) (tkS (I 2) len (tkE (I 2) len (tkE (I 2) len (tkE (I 2) len (tkE (I 2) len p))))) (tkB (I 2) len (tkE (I 2) len (tkE (I 2) len (tkE (I 2) len (tkE (I 2) len p))))) (tkE (I 2) len (tkE (I 2) len (tkE (I 2) len (tkE (I 2) len (tkE (I 2) len p))))) 1 2)) 3 = 0 → nl < 10 := fun h => tm_lt H.a1 (by omega) (by decide) (show (if I 41 1 < nI 10 then (0 : Int32) else 1) = 0 from (nfF_0 h).2.2.1)
    refine r_end2 (k0 := (kN (I 2) len (tkE (I 2) len (tkE (I 2) len p)))) (k1 := 0) (nt := 2) (K := (va_up K 0 (kI (I 2) len (tkE (I 2) len (tkE (I 2) len p))))) (N := (va_up (va_up N 0 (nW (I 2) len (tkE (I 2) len p))) 1 (nW (I 2) len (tkE (I 2) len (tkE (I 2) len (tkE (I 2) len p)))))) (P := (va_up (va_up P 0 (nI (tkB (I 2) len (tkE (I 2) len p)))) 1 (nI (tkB (I 2) len (tkE (I 2) len (tkE (I 2) len (tkE (I 2) len p))))))) (F := (fK (va_up F 10 (nI (tkB (I 2) len p))) (tkS (I 2) len (tkE (I 2) len (tkE (I 2) len (tkE (I 2) len (tkE (I 2) len p))))) (tkB (I 2) len (tkE (I 2) len (tkE (I 2) len (tkE (I 2) len (tkE (I 2) len p))))) (tkE (I 2) len (tkE (I 2) len (tkE (I 2) len (tkE (I 2) len (tkE (I 2) len p))))) 1 2)) hn hR (by decide) rfl hK0 w1.1 H.a1 hB (fun h => ?_) (fun h => ?_)
    · by_cases z : st.f = 0
      · have hf : ¬ (fcL (tmA (I 2) len 2 (tkE (I 2) len p) st.D) (tkB (I 2) len p) (nuA (I 2) len 2 (tkE (I 2) len p))).1 = 0 := fun q => h (by rw [hnf z]; unfold fxF; rw [if_pos q]; exact (CR_z hCF).mpr z)
        rw [hnf z]
        exact hQ1 (by rw [hq]) I _ _ _ _ (fun _ _ => rfl) ((fxF_o (by decide) (by decide)).trans hlen) (by rw [hq]; exact (fxF_o (by decide) (by decide))) (CR_ft hCF z hf)
      · have e9 : (nfF I (4 * (kN (I 2) len (tkE (I 2) len (tkE (I 2) len p))) + 0) 2 2 (va_up (va_up N 0 (nW (I 2) len (tkE (I 2) len p))) 1 (nW (I 2) len (tkE (I 2) len (tkE (I 2) len (tkE (I 2) len p))))) (va_up (va_up P 0 (nI (tkB (I 2) len (tkE (I 2) len p)))) 1 (nI (tkB (I 2) len (tkE (I 2) len (tkE (I 2) len (tkE (I 2) len p)))))) (fK (va_up F 10 (nI (tkB (I 2) len p))) (tkS (I 2) len (tkE (I 2) len (tkE (I 2) len (tkE (I 2) len (tkE (I 2) len p))))) (tkB (I 2) len (tkE (I 2) len (tkE (I 2) len (tkE (I 2) len (tkE (I 2) len p))))) (tkE (I 2) len (tkE (I 2) len (tkE (I 2) len (tkE (I 2) len (tkE (I 2) len p))))) 1 2)) = (fK (va_up F 10 (nI (tkB (I 2) len p))) (tkS (I 2) len (tkE (I 2) len (tkE (I 2) len (tkE (I 2) len (tkE (I 2) len p))))) (tkB (I 2) len (tkE (I 2) len (tkE (I 2) len (tkE (I 2) len (tkE (I 2) len p))))) (tkE (I 2) len (tkE (I 2) len (tkE (I 2) len (tkE (I 2) len (tkE (I 2) len p))))) 1 2) := nfF_id (fun q => z ((CR_z hCF).mp q))
        rw [e9]
        refine hQ1 (by rw [hq]) I _ _ _ _ (fun _ _ => rfl) hlen (by rw [hq]; rfl) ?_
        rw [show (stA (I 2) len 2 (tkB (I 2) len p) (tkE (I 2) len p) st) = st by unfold stA; rw [if_neg z]]
        exact hCF
    · have z : st.f = 0 := (CR_z hCF).mp (nfF_0 h).2.1
      have hf : (fcL (tmA (I 2) len 2 (tkE (I 2) len p) st.D) (tkB (I 2) len p) (nuA (I 2) len 2 (tkE (I 2) len p))).1 = 0 := fx_0 fcL_le (by rw [← hnf z]; exact h)
      exact hQ1 (by rw [hq]) _ _ _ _ _ (fun a ha => by show adI I nl _ _ _ _ a = I a; unfold adI; rw [m_up_ne (by omega), m_up_ne (by omega), m_up_ne (by omega), m_up_ne (by omega), m_up_ne (by omega)]) hlen (by rw [hq]; rfl) (CR_te hCF z hf rfl rfl (by show (if F 16 < (va_up (va_up N 0 (nW (I 2) len (tkE (I 2) len p))) 1 (nW (I 2) len (tkE (I 2) len (tkE (I 2) len (tkE (I 2) len p))))) 0 then (va_up (va_up N 0 (nW (I 2) len (tkE (I 2) len p))) 1 (nW (I 2) len (tkE (I 2) len (tkE (I 2) len (tkE (I 2) len p))))) 0 else F 16) = mxI st.gh (vN (I 2) len (tkE (I 2) len p)); rw [hN0, hC.gh]; rfl) hC.gl (by
        have hc1 : (st.D 1).toNatClampNeg = nl := by rw [H.d1]; exact nI_clamp (by omega)
        show ∃ nl2 nw, OD (adI I nl ((va_up (va_up N 0 (nW (I 2) len (tkE (I 2) len p))) 1 (nW (I 2) len (tkE (I 2) len (tkE (I 2) len (tkE (I 2) len p))))) 0) (nI (kN (I 2) len (tkE (I 2) len (tkE (I 2) len p)))) ((va_up (va_up N 0 (nW (I 2) len (tkE (I 2) len p))) 1 (nW (I 2) len (tkE (I 2) len (tkE (I 2) len (tkE (I 2) len p))))) 1) (plV (kN (I 2) len (tkE (I 2) len (tkE (I 2) len p))) ((va_up (va_up N 0 (nW (I 2) len (tkE (I 2) len p))) 1 (nW (I 2) len (tkE (I 2) len (tkE (I 2) len (tkE (I 2) len p))))) 1))) 41 (ltU st.D (st.D 1).toNatClampNeg (nI (vN (I 2) len (tkE (I 2) len p))) (nI (kN (I 2) len (tkE (I 2) len (tkE (I 2) len p)))) (nI (vN (I 2) len (tkE (I 2) len (tkE (I 2) len (tkE (I 2) len p)))))) nl2 nw; rw [hN0, hN1, hc1]; exact ⟨nl + 1, nw, od_2 H (hB h) w1.1⟩))
theorem c_line3 {S : Nat × (Nat → Int32)} {d n : Nat} {I : mI} {J : mJ} {R : mR} (hn : 122 ≤ n) (hR : m_fin R) (hRt : R 40 5 = some 2) {F K N P : Nat → Int32} {len : Nat} (hlen : F 6 = nI len) (hl6 : len ≤ 600) {p : Nat} (hp : p ≤ len) (h7 : F 7 = nI (tkS (I 2) len p)) (h8 : F 8 = nI (tkB (I 2) len p)) (h9 : F 9 = nI (tkE (I 2) len p)) {st : TS} (hC : CR 0 st I F) (hln : lA (I 2) len 0 p = nI 3) {Q : Option Value → mI → mJ → mR → Prop} (hQ0 : (ms (I 2) len (shA 3) (tkE (I 2) len p)).1 = false → ∀ F' K' N' P', F' 8 = nI (tkB (I 2) len (ms (I 2) len (shA 3) (tkE (I 2) len p)).2) → Q (some (.int 0)) (rM I F' K' N' P') J R) (hQ1 : (ms (I 2) len (shA 3) (tkE (I 2) len p)).1 = true → ∀ A F' K' N' P', (∀ a, a < 41 ∨ 56 < a → A a = I a) → F' 6 = nI len → F' 9 = nI (tkE (I 2) len (ms (I 2) len (shA 3) (tkE (I 2) len p)).2) → CR 0 (stA (I 2) len 3 (tkB (I 2) len p) (tkE (I 2) len p) st) A F' → Q (some (.int 1)) (rM A F' K' N' P') J R) : AW S (d + 7) YReader_readLine n n Q 0 [(0, .ref 40), (1, .int (nI 0))] [] (m_row (m_row (m_row (m_row I 40 F) 57 K) 58 N) 59 P) J R n := by
  have hb := tkB_le (T := I 2) hp
  have he := tkE_le (T := I 2) hp
  have hm : (ms (I 2) len (shA 3) (tkE (I 2) len p)) = if (rlX (I 2) len 11 3 (tkE (I 2) len p) K N P).1 = true then (decide (tkS (I 2) len (rlX (I 2) len 11 3 (tkE (I 2) len p) K N P).2.1 = 3), (rlX (I 2) len 11 3 (tkE (I 2) len p) K N P).2.1) else (false, (rlX (I 2) len 11 3 (tkE (I 2) len p) K N P).2.1) := shF_ms (T := I 2) (len := len) (i := 11) (shA 3) 0 (tkE (I 2) len p) (0, 0, K, N, P) (by decide)
  refine r_line3 hn hR hRt hlen hl6 h7 h8 h9 tkS_le he.1 he.2 hln (fun h => ?_) (fun ho hst => ?_)
  · have hq : (ms (I 2) len (shA 3) (tkE (I 2) len p)) = (false, (rlX (I 2) len 11 3 (tkE (I 2) len p) K N P).2.1) := by
      rw [hm]
      by_cases c : (rlX (I 2) len 11 3 (tkE (I 2) len p) K N P).1 = true
      · rw [if_pos c, decide_eq_false (h.resolve_left (by rw [c]; decide))]
      · rw [if_neg c]
    exact hQ0 (by rw [hq]) _ _ _ _ (by rw [hq]; rfl)
  · obtain ⟨t0, t1, t2, hX⟩ := rx11 ho
    have hq : (ms (I 2) len (shA 3) (tkE (I 2) len p)) = (true, (tkE (I 2) len (tkE (I 2) len (tkE (I 2) len (tkE (I 2) len p))))) := by rw [hm, if_pos ho, decide_eq_true hst, hX]
    have hM : rlM I F (tkB (I 2) len p) len (rlX (I 2) len 11 3 (tkE (I 2) len p) K N P) = (rM I (fK (va_up F 10 (nI (tkB (I 2) len p))) (tkS (I 2) len (tkE (I 2) len (tkE (I 2) len (tkE (I 2) len (tkE (I 2) len p))))) (tkB (I 2) len (tkE (I 2) len (tkE (I 2) len (tkE (I 2) len (tkE (I 2) len p))))) (tkE (I 2) len (tkE (I 2) len (tkE (I 2) len (tkE (I 2) len (tkE (I 2) len p))))) 2 1) (va_up (va_up K 0 (kI (I 2) len (tkE (I 2) len p))) 1 (kI (I 2) len (tkE (I 2) len (tkE (I 2) len p)))) (va_up N 0 (nW (I 2) len (tkE (I 2) len (tkE (I 2) len (tkE (I 2) len p))))) (va_up P 0 (nI (tkB (I 2) len (tkE (I 2) len (tkE (I 2) len (tkE (I 2) len p))))))) := by rw [hX]
    refine a_mem hM ?_
    clear hM hm
    have hCF : CR 0 st I (fK (va_up F 10 (nI (tkB (I 2) len p))) (tkS (I 2) len (tkE (I 2) len (tkE (I 2) len (tkE (I 2) len (tkE (I 2) len p))))) (tkB (I 2) len (tkE (I 2) len (tkE (I 2) len (tkE (I 2) len (tkE (I 2) len p))))) (tkE (I 2) len (tkE (I 2) len (tkE (I 2) len (tkE (I 2) len (tkE (I 2) len p))))) 2 1) := CR_F hC rfl rfl rfl rfl
    have q0 : (tkE (I 2) len p) ≤ len := he.2
    have q1 : (tkE (I 2) len (tkE (I 2) len p)) ≤ len := (tkE_le (T := I 2) q0).2
    have q2 : (tkE (I 2) len (tkE (I 2) len (tkE (I 2) len p))) ≤ len := (tkE_le (T := I 2) q1).2
    have q3 : (tkE (I 2) len (tkE (I 2) len (tkE (I 2) len (tkE (I 2) len p)))) ≤ len := (tkE_le (T := I 2) q2).2
    have w0 := kN_of t0
    have hK0 : (va_up (va_up K 0 (kI (I 2) len (tkE (I 2) len p))) 1 (kI (I 2) len (tkE (I 2) len (tkE (I 2) len p)))) 0 = nI (kN (I 2) len (tkE (I 2) len p)) := w0.2
    have w1 := kN_of t1
    have hK1 : (va_up (va_up K 0 (kI (I 2) len (tkE (I 2) len p))) 1 (kI (I 2) len (tkE (I 2) len (tkE (I 2) len p)))) 1 = nI (kN (I 2) len (tkE (I 2) len (tkE (I 2) len p))) := w1.2
    have v2 := vN_of q2 t2
    have hN0 : (va_up N 0 (nW (I 2) len (tkE (I 2) len (tkE (I 2) len (tkE (I 2) len p))))) 0 = nI (vN (I 2) len (tkE (I 2) len (tkE (I 2) len (tkE (I 2) len p)))) := v2.2
    obtain ⟨nl, nw, H⟩ := (show ∃ nl nw, OD I 41 st.D nl nw from hC.da)
    have h10 := H.l10
    have hw8 := H.w8
    have ht : (tmA (I 2) len 3 (tkE (I 2) len p) st.D) = true ↔ ¬ tmV I (4 * (kN (I 2) len (tkE (I 2) len p)) + (kN (I 2) len (tkE (I 2) len (tkE (I 2) len p)))) 3 = 0 := tm_law (x := I 41 2) (y := st.D 2) (u := I 49 (4 * (kN (I 2) len (tkE (I 2) len p)) + (kN (I 2) len (tkE (I 2) len (tkE (I 2) len p))))) (v := st.D (59 + (4 * (kN (I 2) len (tkE (I 2) len p)) + (kN (I 2) len (tkE (I 2) len (tkE (I 2) len p)))))) H.a2 H.d2 hw8 (H.ti (4 * (kN (I 2) len (tkE (I 2) len p)) + (kN (I 2) len (tkE (I 2) len (tkE (I 2) len p)))) (by omega))
    have hok : okL 3 (va_up N 0 (nW (I 2) len (tkE (I 2) len (tkE (I 2) len (tkE (I 2) len p))))) (va_up P 0 (nI (tkB (I 2) len (tkE (I 2) len (tkE (I 2) len (tkE (I 2) len p)))))) 0 (nuA (I 2) len 3 (tkE (I 2) len p)) := (And.intro (And.intro (bd_nb (l := 3) (k := 0) (lo := 0) (hi := 9) hN0 v2.1 (by decide) (by decide) (by decide) (by decide) (by decide)) rfl) trivial)
    have hnf : st.f = 0 → (nfF I (4 * (kN (I 2) len (tkE (I 2) len p)) + (kN (I 2) len (tkE (I 2) len (tkE (I 2) len p)))) 3 1 (va_up N 0 (nW (I 2) len (tkE (I 2) len (tkE (I 2) len (tkE (I 2) len p))))) (va_up P 0 (nI (tkB (I 2) len (tkE (I 2) len (tkE (I 2) len (tkE (I 2) len p)))))) (fK (va_up F 10 (nI (tkB (I 2) len p))) (tkS (I 2) len (tkE (I 2) len (tkE (I 2) len (tkE (I 2) len (tkE (I 2) len p))))) (tkB (I 2) len (tkE (I 2) len (tkE (I 2) len (tkE (I 2) len (tkE (I 2) len p))))) (tkE (I 2) len (tkE (I 2) len (tkE (I 2) len (tkE (I 2) len (tkE (I 2) len p))))) 2 1)) = fxF (fK (va_up F 10 (nI (tkB (I 2) len p))) (tkS (I 2) len (tkE (I 2) len (tkE (I 2) len (tkE (I 2) len (tkE (I 2) len p))))) (tkB (I 2) len (tkE (I 2) len (tkE (I 2) len (tkE (I 2) len (tkE (I 2) len p))))) (tkE (I 2) len (tkE (I 2) len (tkE (I 2) len (tkE (I 2) len (tkE (I 2) len p))))) 2 1) (fcL (tmA (I 2) len 3 (tkE (I 2) len p) st.D) (tkB (I 2) len p) (nuA (I 2) len 3 (tkE (I 2) len p))) := fun z => nfF_fc (L := (nuA (I 2) len 3 (tkE (I 2) len p))) ((CR_z hCF).mpr z) rfl ht hok
    have hB : (nfF I (4 * (kN (I 2) len (tkE (I 2) len p)) + (kN (I 2) len (tkE (I 2) len (tkE (I 2) len p)))) 3 1 (va_up N 0 (nW (I 2) len (tkE (I 2) len (tkE (I 2) len (tkE (I 2) len p))))) (va_up P 0 (nI (tkB (I 2) len (tkE (I 2) len (tkE (I 2) len (tkE (I 2) len p)))))) (fK (va_up F 10 (nI (tkB (I 2) len p))) (tkS (I 2) len (tkE (I 2) len (tkE (I 2) len (tkE (I 2) len (tkE (I 2) len p))))) (tkB (I 2) len (tkE (I 2) len (tkE (I 2) len (tkE (I 2) len (tkE (I 2) len p))))) (tkE (I 2) len (tkE (I 2) len (tkE (I 2) len (tkE (I 2) len (tkE (I 2) len p))))) 2 1)) 3 = 0 → True := fun h => trivial
    refine r_end3 (k0 := (kN (I 2) len (tkE (I 2) len p))) (k1 := (kN (I 2) len (tkE (I 2) len (tkE (I 2) len p)))) (nt := 1) (K := (va_up (va_up K 0 (kI (I 2) len (tkE (I 2) len p))) 1 (kI (I 2) len (tkE (I 2) len (tkE (I 2) len p))))) (N := (va_up N 0 (nW (I 2) len (tkE (I 2) len (tkE (I 2) len (tkE (I 2) len p)))))) (P := (va_up P 0 (nI (tkB (I 2) len (tkE (I 2) len (tkE (I 2) len (tkE (I 2) len p))))))) (F := (fK (va_up F 10 (nI (tkB (I 2) len p))) (tkS (I 2) len (tkE (I 2) len (tkE (I 2) len (tkE (I 2) len (tkE (I 2) len p))))) (tkB (I 2) len (tkE (I 2) len (tkE (I 2) len (tkE (I 2) len (tkE (I 2) len p))))) (tkE (I 2) len (tkE (I 2) len (tkE (I 2) len (tkE (I 2) len (tkE (I 2) len p))))) 2 1)) hn hR (by decide) rfl hK0 hK1 w0.1 w1.1 hB (fun h => ?_) (fun h => ?_)
    · by_cases z : st.f = 0
      · have hf : ¬ (fcL (tmA (I 2) len 3 (tkE (I 2) len p) st.D) (tkB (I 2) len p) (nuA (I 2) len 3 (tkE (I 2) len p))).1 = 0 := fun q => h (by rw [hnf z]; unfold fxF; rw [if_pos q]; exact (CR_z hCF).mpr z)
        rw [hnf z]
        exact hQ1 (by rw [hq]) I _ _ _ _ (fun _ _ => rfl) ((fxF_o (by decide) (by decide)).trans hlen) (by rw [hq]; exact (fxF_o (by decide) (by decide))) (CR_ft hCF z hf)
      · have e9 : (nfF I (4 * (kN (I 2) len (tkE (I 2) len p)) + (kN (I 2) len (tkE (I 2) len (tkE (I 2) len p)))) 3 1 (va_up N 0 (nW (I 2) len (tkE (I 2) len (tkE (I 2) len (tkE (I 2) len p))))) (va_up P 0 (nI (tkB (I 2) len (tkE (I 2) len (tkE (I 2) len (tkE (I 2) len p)))))) (fK (va_up F 10 (nI (tkB (I 2) len p))) (tkS (I 2) len (tkE (I 2) len (tkE (I 2) len (tkE (I 2) len (tkE (I 2) len p))))) (tkB (I 2) len (tkE (I 2) len (tkE (I 2) len (tkE (I 2) len (tkE (I 2) len p))))) (tkE (I 2) len (tkE (I 2) len (tkE (I 2) len (tkE (I 2) len (tkE (I 2) len p))))) 2 1)) = (fK (va_up F 10 (nI (tkB (I 2) len p))) (tkS (I 2) len (tkE (I 2) len (tkE (I 2) len (tkE (I 2) len (tkE (I 2) len p))))) (tkB (I 2) len (tkE (I 2) len (tkE (I 2) len (tkE (I 2) len (tkE (I 2) len p))))) (tkE (I 2) len (tkE (I 2) len (tkE (I 2) len (tkE (I 2) len (tkE (I 2) len p))))) 2 1) := nfF_id (fun q => z ((CR_z hCF).mp q))
        rw [e9]
        refine hQ1 (by rw [hq]) I _ _ _ _ (fun _ _ => rfl) hlen (by rw [hq]; rfl) ?_
        rw [show (stA (I 2) len 3 (tkB (I 2) len p) (tkE (I 2) len p) st) = st by unfold stA; rw [if_neg z]]
        exact hCF
    · have z : st.f = 0 := (CR_z hCF).mp (nfF_0 h).2.1
      have hf : (fcL (tmA (I 2) len 3 (tkE (I 2) len p) st.D) (tkB (I 2) len p) (nuA (I 2) len 3 (tkE (I 2) len p))).1 = 0 := fx_0 fcL_le (by rw [← hnf z]; exact h)
      exact hQ1 (by rw [hq]) _ _ _ _ _ (fun a ha => tlw_o (by omega) (by omega)) hlen (by rw [hq]; rfl) (CR_te hCF z hf rfl rfl hC.gh hC.gl (by
        have hw : st.D (59 + (4 * (kN (I 2) len (tkE (I 2) len p)) + (kN (I 2) len (tkE (I 2) len (tkE (I 2) len p))))) = -1 → nw < 8 := fun e => by
          have t := (nfF_0 h).2.2.1
          exact tm_lw (x := I 41 2) (u := I 49 (4 * (kN (I 2) len (tkE (I 2) len p)) + (kN (I 2) len (tkE (I 2) len (tkE (I 2) len p))))) H.a2 (by omega) ((H.ti (4 * (kN (I 2) len (tkE (I 2) len p)) + (kN (I 2) len (tkE (I 2) len (tkE (I 2) len p)))) (by omega)).trans e) t
        obtain ⟨nw2, H2⟩ := od_3 (x := nI (vN (I 2) len (tkE (I 2) len (tkE (I 2) len (tkE (I 2) len p))))) H (law := (4 * (kN (I 2) len (tkE (I 2) len p)) + (kN (I 2) len (tkE (I 2) len (tkE (I 2) len p))))) (by omega) hw
        show ∃ nl nw, OD (tlwI I (4 * (kN (I 2) len (tkE (I 2) len p)) + (kN (I 2) len (tkE (I 2) len (tkE (I 2) len p)))) ((va_up N 0 (nW (I 2) len (tkE (I 2) len (tkE (I 2) len (tkE (I 2) len p))))) 0)) 41 (lawU st.D (4 * (kN (I 2) len (tkE (I 2) len p)) + (kN (I 2) len (tkE (I 2) len (tkE (I 2) len p)))) (nI (vN (I 2) len (tkE (I 2) len (tkE (I 2) len (tkE (I 2) len p)))))) nl nw; rw [hN0]; exact ⟨nl, nw2, H2⟩))
theorem c_line4 {S : Nat × (Nat → Int32)} {d n : Nat} {I : mI} {J : mJ} {R : mR} (hn : 122 ≤ n) (hR : m_fin R) (hRt : R 40 5 = some 2) {F K N P : Nat → Int32} {len : Nat} (hlen : F 6 = nI len) (hl6 : len ≤ 600) {p : Nat} (hp : p ≤ len) (h7 : F 7 = nI (tkS (I 2) len p)) (h8 : F 8 = nI (tkB (I 2) len p)) (h9 : F 9 = nI (tkE (I 2) len p)) {st : TS} (hC : CR 0 st I F) (hln : lA (I 2) len 0 p = nI 4) {Q : Option Value → mI → mJ → mR → Prop} (hQ0 : (ms (I 2) len (shA 4) (tkE (I 2) len p)).1 = false → ∀ F' K' N' P', F' 8 = nI (tkB (I 2) len (ms (I 2) len (shA 4) (tkE (I 2) len p)).2) → Q (some (.int 0)) (rM I F' K' N' P') J R) (hQ1 : (ms (I 2) len (shA 4) (tkE (I 2) len p)).1 = true → ∀ A F' K' N' P', (∀ a, a < 41 ∨ 56 < a → A a = I a) → F' 6 = nI len → F' 9 = nI (tkE (I 2) len (ms (I 2) len (shA 4) (tkE (I 2) len p)).2) → CR 0 (stA (I 2) len 4 (tkB (I 2) len p) (tkE (I 2) len p) st) A F' → Q (some (.int 1)) (rM A F' K' N' P') J R) : AW S (d + 7) YReader_readLine n n Q 0 [(0, .ref 40), (1, .int (nI 0))] [] (m_row (m_row (m_row (m_row I 40 F) 57 K) 58 N) 59 P) J R n := by
  have hb := tkB_le (T := I 2) hp
  have he := tkE_le (T := I 2) hp
  have hm : (ms (I 2) len (shA 4) (tkE (I 2) len p)) = if (rlX (I 2) len 12 3 (tkE (I 2) len p) K N P).1 = true then (decide (tkS (I 2) len (rlX (I 2) len 12 3 (tkE (I 2) len p) K N P).2.1 = 3), (rlX (I 2) len 12 3 (tkE (I 2) len p) K N P).2.1) else (false, (rlX (I 2) len 12 3 (tkE (I 2) len p) K N P).2.1) := shF_ms (T := I 2) (len := len) (i := 12) (shA 4) 0 (tkE (I 2) len p) (0, 0, K, N, P) (by decide)
  refine r_line4 hn hR hRt hlen hl6 h7 h8 h9 tkS_le he.1 he.2 hln (fun h => ?_) (fun ho hst => ?_)
  · have hq : (ms (I 2) len (shA 4) (tkE (I 2) len p)) = (false, (rlX (I 2) len 12 3 (tkE (I 2) len p) K N P).2.1) := by
      rw [hm]
      by_cases c : (rlX (I 2) len 12 3 (tkE (I 2) len p) K N P).1 = true
      · rw [if_pos c, decide_eq_false (h.resolve_left (by rw [c]; decide))]
      · rw [if_neg c]
    exact hQ0 (by rw [hq]) _ _ _ _ (by rw [hq]; rfl)
  · obtain ⟨t0, t1, t2, hX⟩ := rx12 ho
    have hq : (ms (I 2) len (shA 4) (tkE (I 2) len p)) = (true, (tkE (I 2) len (tkE (I 2) len (tkE (I 2) len (tkE (I 2) len p))))) := by rw [hm, if_pos ho, decide_eq_true hst, hX]
    have hM : rlM I F (tkB (I 2) len p) len (rlX (I 2) len 12 3 (tkE (I 2) len p) K N P) = (rM I (fK (va_up F 10 (nI (tkB (I 2) len p))) (tkS (I 2) len (tkE (I 2) len (tkE (I 2) len (tkE (I 2) len (tkE (I 2) len p))))) (tkB (I 2) len (tkE (I 2) len (tkE (I 2) len (tkE (I 2) len (tkE (I 2) len p))))) (tkE (I 2) len (tkE (I 2) len (tkE (I 2) len (tkE (I 2) len (tkE (I 2) len p))))) 0 3) K (va_up (va_up (va_up N 0 (nW (I 2) len (tkE (I 2) len p))) 1 (nW (I 2) len (tkE (I 2) len (tkE (I 2) len p)))) 2 (nW (I 2) len (tkE (I 2) len (tkE (I 2) len (tkE (I 2) len p))))) (va_up (va_up (va_up P 0 (nI (tkB (I 2) len (tkE (I 2) len p)))) 1 (nI (tkB (I 2) len (tkE (I 2) len (tkE (I 2) len p))))) 2 (nI (tkB (I 2) len (tkE (I 2) len (tkE (I 2) len (tkE (I 2) len p))))))) := by rw [hX]
    refine a_mem hM ?_
    clear hM hm
    have hCF : CR 0 st I (fK (va_up F 10 (nI (tkB (I 2) len p))) (tkS (I 2) len (tkE (I 2) len (tkE (I 2) len (tkE (I 2) len (tkE (I 2) len p))))) (tkB (I 2) len (tkE (I 2) len (tkE (I 2) len (tkE (I 2) len (tkE (I 2) len p))))) (tkE (I 2) len (tkE (I 2) len (tkE (I 2) len (tkE (I 2) len (tkE (I 2) len p))))) 0 3) := CR_F hC rfl rfl rfl rfl
    have q0 : (tkE (I 2) len p) ≤ len := he.2
    have q1 : (tkE (I 2) len (tkE (I 2) len p)) ≤ len := (tkE_le (T := I 2) q0).2
    have q2 : (tkE (I 2) len (tkE (I 2) len (tkE (I 2) len p))) ≤ len := (tkE_le (T := I 2) q1).2
    have q3 : (tkE (I 2) len (tkE (I 2) len (tkE (I 2) len (tkE (I 2) len p)))) ≤ len := (tkE_le (T := I 2) q2).2
    have v0 := vN_of q0 t0
    have hN0 : (va_up (va_up (va_up N 0 (nW (I 2) len (tkE (I 2) len p))) 1 (nW (I 2) len (tkE (I 2) len (tkE (I 2) len p)))) 2 (nW (I 2) len (tkE (I 2) len (tkE (I 2) len (tkE (I 2) len p))))) 0 = nI (vN (I 2) len (tkE (I 2) len p)) := v0.2
    have v1 := vN_of q1 t1
    have hN1 : (va_up (va_up (va_up N 0 (nW (I 2) len (tkE (I 2) len p))) 1 (nW (I 2) len (tkE (I 2) len (tkE (I 2) len p)))) 2 (nW (I 2) len (tkE (I 2) len (tkE (I 2) len (tkE (I 2) len p))))) 1 = nI (vN (I 2) len (tkE (I 2) len (tkE (I 2) len p))) := v1.2
    have v2 := vN_of q2 t2
    have hN2 : (va_up (va_up (va_up N 0 (nW (I 2) len (tkE (I 2) len p))) 1 (nW (I 2) len (tkE (I 2) len (tkE (I 2) len p)))) 2 (nW (I 2) len (tkE (I 2) len (tkE (I 2) len (tkE (I 2) len p))))) 2 = nI (vN (I 2) len (tkE (I 2) len (tkE (I 2) len (tkE (I 2) len p)))) := v2.2
    obtain ⟨nl, nw, H⟩ := (show ∃ nl nw, OD I 41 st.D nl nw from hC.da)
    have h10 := H.l10
    have hw8 := H.w8
    have ht : (tmA (I 2) len 4 (tkE (I 2) len p) st.D) = true ↔ ¬ tmV I (4 * 0 + 0) 4 = 0 := ⟨fun h => absurd (show false = true from h) (by decide), fun h => absurd (show tmV I (4 * 0 + 0) 4 = 0 from rfl) h⟩
    have hok : okL 4 (va_up (va_up (va_up N 0 (nW (I 2) len (tkE (I 2) len p))) 1 (nW (I 2) len (tkE (I 2) len (tkE (I 2) len p)))) 2 (nW (I 2) len (tkE (I 2) len (tkE (I 2) len (tkE (I 2) len p))))) (va_up (va_up (va_up P 0 (nI (tkB (I 2) len (tkE (I 2) len p)))) 1 (nI (tkB (I 2) len (tkE (I 2) len (tkE (I 2) len p))))) 2 (nI (tkB (I 2) len (tkE (I 2) len (tkE (I 2) len (tkE (I 2) len p)))))) 0 (nuA (I 2) len 4 (tkE (I 2) len p)) := (And.intro (And.intro (bd_nb (l := 4) (k := 0) (lo := 0) (hi := 9) hN0 v0.1 (by decide) (by decide) (by decide) (by decide) (by decide)) rfl) (And.intro (And.intro (bd_nb4 hN1 hN0 v1.1 v0.1) rfl) (And.intro (And.intro (bd_nb (l := 4) (k := 2) (lo := 0) (hi := 3) hN2 v2.1 (by decide) (by decide) (by decide) (by decide) (by decide)) rfl) trivial)))
    have hnf : st.f = 0 → (nfF I (4 * 0 + 0) 4 3 (va_up (va_up (va_up N 0 (nW (I 2) len (tkE (I 2) len p))) 1 (nW (I 2) len (tkE (I 2) len (tkE (I 2) len p)))) 2 (nW (I 2) len (tkE (I 2) len (tkE (I 2) len (tkE (I 2) len p))))) (va_up (va_up (va_up P 0 (nI (tkB (I 2) len (tkE (I 2) len p)))) 1 (nI (tkB (I 2) len (tkE (I 2) len (tkE (I 2) len p))))) 2 (nI (tkB (I 2) len (tkE (I 2) len (tkE (I 2) len (tkE (I 2) len p)))))) (fK (va_up F 10 (nI (tkB (I 2) len p))) (tkS (I 2) len (tkE (I 2) len (tkE (I 2) len (tkE (I 2) len (tkE (I 2) len p))))) (tkB (I 2) len (tkE (I 2) len (tkE (I 2) len (tkE (I 2) len (tkE (I 2) len p))))) (tkE (I 2) len (tkE (I 2) len (tkE (I 2) len (tkE (I 2) len (tkE (I 2) len p))))) 0 3)) = fxF (fK (va_up F 10 (nI (tkB (I 2) len p))) (tkS (I 2) len (tkE (I 2) len (tkE (I 2) len (tkE (I 2) len (tkE (I 2) len p))))) (tkB (I 2) len (tkE (I 2) len (tkE (I 2) len (tkE (I 2) len (tkE (I 2) len p))))) (tkE (I 2) len (tkE (I 2) len (tkE (I 2) len (tkE (I 2) len (tkE (I 2) len p))))) 0 3) (fcL (tmA (I 2) len 4 (tkE (I 2) len p) st.D) (tkB (I 2) len p) (nuA (I 2) len 4 (tkE (I 2) len p))) := fun z => nfF_fc (L := (nuA (I 2) len 4 (tkE (I 2) len p))) ((CR_z hCF).mpr z) rfl ht hok
    have hB : (nfF I (4 * 0 + 0) 4 3 (va_up (va_up (va_up N 0 (nW (I 2) len (tkE (I 2) len p))) 1 (nW (I 2) len (tkE (I 2) len (tkE (I 2) len p)))) 2 (nW (I 2) len (tkE (I 2) len (tkE (I 2) len (tkE (I 2) len p))))) (va_up (va_up (va_up P 0 (nI (tkB (I 2) len (tkE (I 2) len p)))) 1 (nI (tkB (I 2) len (tkE (I 2) len (tkE (I 2) len p))))) 2 (nI (tkB (I 2) len (tkE (I 2) len (tkE (I 2) len (tkE (I 2) len p)))))) (fK (va_up F 10 (nI (tkB (I 2) len p))) (tkS (I 2) len (tkE (I 2) len (tkE (I 2) len (tkE (I 2) len (tkE (I 2) len p))))) (tkB (I 2) len (tkE (I 2) len (tkE (I 2) len (tkE (I 2) len (tkE (I 2) len p))))) (tkE (I 2) len (tkE (I 2) len (tkE (I 2) len (tkE (I 2) len (tkE (I 2) len p))))) 0 3)) 3 = 0 → (vN (I 2) len (tkE (I 2) len p)) < 10 := fun h => Nat.lt_succ_of_le (nb_hi (hi := 9) hN0 v0.1 (by decide) (by decide) ((nfF_0 h).2.2.2 0 (by decide)))
    refine r_end4 (k0 := 0) (k1 := 0) (nt := 3) (K := K) (N := (va_up (va_up (va_up N 0 (nW (I 2) len (tkE (I 2) len p))) 1 (nW (I 2) len (tkE (I 2) len (tkE (I 2) len p)))) 2 (nW (I 2) len (tkE (I 2) len (tkE (I 2) len (tkE (I 2) len p)))))) (P := (va_up (va_up (va_up P 0 (nI (tkB (I 2) len (tkE (I 2) len p)))) 1 (nI (tkB (I 2) len (tkE (I 2) len (tkE (I 2) len p))))) 2 (nI (tkB (I 2) len (tkE (I 2) len (tkE (I 2) len (tkE (I 2) len p))))))) (F := (fK (va_up F 10 (nI (tkB (I 2) len p))) (tkS (I 2) len (tkE (I 2) len (tkE (I 2) len (tkE (I 2) len (tkE (I 2) len p))))) (tkB (I 2) len (tkE (I 2) len (tkE (I 2) len (tkE (I 2) len (tkE (I 2) len p))))) (tkE (I 2) len (tkE (I 2) len (tkE (I 2) len (tkE (I 2) len (tkE (I 2) len p))))) 0 3)) hn hR (by decide) rfl hN0 hB (fun h => ?_) (fun h => ?_)
    · by_cases z : st.f = 0
      · have hf : ¬ (fcL (tmA (I 2) len 4 (tkE (I 2) len p) st.D) (tkB (I 2) len p) (nuA (I 2) len 4 (tkE (I 2) len p))).1 = 0 := fun q => h (by rw [hnf z]; unfold fxF; rw [if_pos q]; exact (CR_z hCF).mpr z)
        rw [hnf z]
        exact hQ1 (by rw [hq]) I _ _ _ _ (fun _ _ => rfl) ((fxF_o (by decide) (by decide)).trans hlen) (by rw [hq]; exact (fxF_o (by decide) (by decide))) (CR_ft hCF z hf)
      · have e9 : (nfF I (4 * 0 + 0) 4 3 (va_up (va_up (va_up N 0 (nW (I 2) len (tkE (I 2) len p))) 1 (nW (I 2) len (tkE (I 2) len (tkE (I 2) len p)))) 2 (nW (I 2) len (tkE (I 2) len (tkE (I 2) len (tkE (I 2) len p))))) (va_up (va_up (va_up P 0 (nI (tkB (I 2) len (tkE (I 2) len p)))) 1 (nI (tkB (I 2) len (tkE (I 2) len (tkE (I 2) len p))))) 2 (nI (tkB (I 2) len (tkE (I 2) len (tkE (I 2) len (tkE (I 2) len p)))))) (fK (va_up F 10 (nI (tkB (I 2) len p))) (tkS (I 2) len (tkE (I 2) len (tkE (I 2) len (tkE (I 2) len (tkE (I 2) len p))))) (tkB (I 2) len (tkE (I 2) len (tkE (I 2) len (tkE (I 2) len (tkE (I 2) len p))))) (tkE (I 2) len (tkE (I 2) len (tkE (I 2) len (tkE (I 2) len (tkE (I 2) len p))))) 0 3)) = (fK (va_up F 10 (nI (tkB (I 2) len p))) (tkS (I 2) len (tkE (I 2) len (tkE (I 2) len (tkE (I 2) len (tkE (I 2) len p))))) (tkB (I 2) len (tkE (I 2) len (tkE (I 2) len (tkE (I 2) len (tkE (I 2) len p))))) (tkE (I 2) len (tkE (I 2) len (tkE (I 2) len (tkE (I 2) len (tkE (I 2) len p))))) 0 3) := nfF_id (fun q => z ((CR_z hCF).mp q))
        rw [e9]
        refine hQ1 (by rw [hq]) I _ _ _ _ (fun _ _ => rfl) hlen (by rw [hq]; rfl) ?_
        rw [show (stA (I 2) len 4 (tkB (I 2) len p) (tkE (I 2) len p) st) = st by unfold stA; rw [if_neg z]]
        exact hCF
    · have z : st.f = 0 := (CR_z hCF).mp (nfF_0 h).2.1
      have hf : (fcL (tmA (I 2) len 4 (tkE (I 2) len p) st.D) (tkB (I 2) len p) (nuA (I 2) len 4 (tkE (I 2) len p))).1 = 0 := fx_0 fcL_le (by rw [← hnf z]; exact h)
      exact hQ1 (by rw [hq]) _ _ _ _ _ (fun a ha => by rw [m_up_ne (by omega), m_up_ne (by omega)]) hlen (by rw [hq]; rfl) (CR_te hCF z hf rfl rfl hC.gh ((va_up_self _ _ _).trans (g17_l hCF.gl hN1 v0.1 v1.1)) (by show ∃ nl nw, OD (m_up (m_up I 47 (vN (I 2) len (tkE (I 2) len p)) ((va_up (va_up (va_up N 0 (nW (I 2) len (tkE (I 2) len p))) 1 (nW (I 2) len (tkE (I 2) len (tkE (I 2) len p)))) 2 (nW (I 2) len (tkE (I 2) len (tkE (I 2) len (tkE (I 2) len p))))) 1)) 48 (vN (I 2) len (tkE (I 2) len p)) ((va_up (va_up (va_up N 0 (nW (I 2) len (tkE (I 2) len p))) 1 (nW (I 2) len (tkE (I 2) len (tkE (I 2) len p)))) 2 (nW (I 2) len (tkE (I 2) len (tkE (I 2) len (tkE (I 2) len p))))) 2)) 41 (va_up (va_up st.D (39 + (vN (I 2) len (tkE (I 2) len p))) (nI (vN (I 2) len (tkE (I 2) len (tkE (I 2) len p))))) (49 + (vN (I 2) len (tkE (I 2) len p))) (nI (vN (I 2) len (tkE (I 2) len (tkE (I 2) len (tkE (I 2) len p)))))) nl nw; rw [hN1, hN2]; exact ⟨nl, nw, od_4 H (hB h)⟩))
theorem c_line5 {S : Nat × (Nat → Int32)} {d n : Nat} {I : mI} {J : mJ} {R : mR} (hn : 122 ≤ n) (hR : m_fin R) (hRt : R 40 5 = some 2) {F K N P : Nat → Int32} {len : Nat} (hlen : F 6 = nI len) (hl6 : len ≤ 600) {p : Nat} (hp : p ≤ len) (h7 : F 7 = nI (tkS (I 2) len p)) (h8 : F 8 = nI (tkB (I 2) len p)) (h9 : F 9 = nI (tkE (I 2) len p)) {st : TS} (hC : CR 1 st I F) (hln : lA (I 2) len 1 p = nI 5) {Q : Option Value → mI → mJ → mR → Prop} (hQ0 : (ms (I 2) len (shA 5) (tkE (I 2) len p)).1 = false → ∀ F' K' N' P', F' 8 = nI (tkB (I 2) len (ms (I 2) len (shA 5) (tkE (I 2) len p)).2) → Q (some (.int 0)) (rM I F' K' N' P') J R) (hQ1 : (ms (I 2) len (shA 5) (tkE (I 2) len p)).1 = true → ∀ A F' K' N' P', (∀ a, a < 41 ∨ 56 < a → A a = I a) → F' 6 = nI len → F' 9 = nI (tkE (I 2) len (ms (I 2) len (shA 5) (tkE (I 2) len p)).2) → CR 1 (stA (I 2) len 5 (tkB (I 2) len p) (tkE (I 2) len p) st) A F' → Q (some (.int 1)) (rM A F' K' N' P') J R) : AW S (d + 7) YReader_readLine n n Q 0 [(0, .ref 40), (1, .int (nI 1))] [] (m_row (m_row (m_row (m_row I 40 F) 57 K) 58 N) 59 P) J R n := by
  have hb := tkB_le (T := I 2) hp
  have he := tkE_le (T := I 2) hp
  have hm : (ms (I 2) len (shA 5) (tkE (I 2) len p)) = if (rlX (I 2) len 9 1 (tkE (I 2) len p) K N P).1 = true then (decide (tkS (I 2) len (rlX (I 2) len 9 1 (tkE (I 2) len p) K N P).2.1 = 3), (rlX (I 2) len 9 1 (tkE (I 2) len p) K N P).2.1) else (false, (rlX (I 2) len 9 1 (tkE (I 2) len p) K N P).2.1) := shF_ms (T := I 2) (len := len) (i := 9) (shA 5) 0 (tkE (I 2) len p) (0, 0, K, N, P) (by decide)
  refine r_line5 hn hR hRt hlen hl6 h7 h8 h9 tkS_le he.1 he.2 hln (fun h => ?_) (fun ho hst => ?_)
  · have hq : (ms (I 2) len (shA 5) (tkE (I 2) len p)) = (false, (rlX (I 2) len 9 1 (tkE (I 2) len p) K N P).2.1) := by
      rw [hm]
      by_cases c : (rlX (I 2) len 9 1 (tkE (I 2) len p) K N P).1 = true
      · rw [if_pos c, decide_eq_false (h.resolve_left (by rw [c]; decide))]
      · rw [if_neg c]
    exact hQ0 (by rw [hq]) _ _ _ _ (by rw [hq]; rfl)
  · obtain ⟨t0, hX⟩ := rx9 ho
    have hq : (ms (I 2) len (shA 5) (tkE (I 2) len p)) = (true, (tkE (I 2) len (tkE (I 2) len p))) := by rw [hm, if_pos ho, decide_eq_true hst, hX]
    have hM : rlM I F (tkB (I 2) len p) len (rlX (I 2) len 9 1 (tkE (I 2) len p) K N P) = (rM I (fK (va_up F 10 (nI (tkB (I 2) len p))) (tkS (I 2) len (tkE (I 2) len (tkE (I 2) len p))) (tkB (I 2) len (tkE (I 2) len (tkE (I 2) len p))) (tkE (I 2) len (tkE (I 2) len (tkE (I 2) len p))) 0 1) K (va_up N 0 (nW (I 2) len (tkE (I 2) len p))) (va_up P 0 (nI (tkB (I 2) len (tkE (I 2) len p))))) := by rw [hX]
    refine a_mem hM ?_
    clear hM hm
    have hCF : CR 1 st I (fK (va_up F 10 (nI (tkB (I 2) len p))) (tkS (I 2) len (tkE (I 2) len (tkE (I 2) len p))) (tkB (I 2) len (tkE (I 2) len (tkE (I 2) len p))) (tkE (I 2) len (tkE (I 2) len (tkE (I 2) len p))) 0 1) := CR_F hC rfl rfl rfl rfl
    have q0 : (tkE (I 2) len p) ≤ len := he.2
    have q1 : (tkE (I 2) len (tkE (I 2) len p)) ≤ len := (tkE_le (T := I 2) q0).2
    have v0 := vN_of q0 t0
    have hN0 : (va_up N 0 (nW (I 2) len (tkE (I 2) len p))) 0 = nI (vN (I 2) len (tkE (I 2) len p)) := v0.2
    obtain ⟨c, H⟩ := (show ∃ c, WD I 50 st.D c from hC.da)
    have h10 := H.c40
    have hc0 : (st.D 0).toNatClampNeg = c := by rw [H.d0]; exact nI_clamp (by omega)
    have ht : (tmA (I 2) len 5 (tkE (I 2) len p) st.D) = true ↔ ¬ tmV I (4 * 0 + 0) 5 = 0 := tm_eq (x := I 50 0) (y := st.D 0) H.a0 H.d0 h10 (by decide)
    have hok : okL 5 (va_up N 0 (nW (I 2) len (tkE (I 2) len p))) (va_up P 0 (nI (tkB (I 2) len (tkE (I 2) len p)))) 0 (nuA (I 2) len 5 (tkE (I 2) len p)) := (And.intro (And.intro (bd_nb (l := 5) (k := 0) (lo := 0) (hi := 9) hN0 v0.1 (by decide) (by decide) (by decide) (by decide) (by decide)) rfl) trivial)
    have hnf : st.f = 0 → (nfF I (4 * 0 + 0) 5 1 (va_up N 0 (nW (I 2) len (tkE (I 2) len p))) (va_up P 0 (nI (tkB (I 2) len (tkE (I 2) len p)))) (fK (va_up F 10 (nI (tkB (I 2) len p))) (tkS (I 2) len (tkE (I 2) len (tkE (I 2) len p))) (tkB (I 2) len (tkE (I 2) len (tkE (I 2) len p))) (tkE (I 2) len (tkE (I 2) len (tkE (I 2) len p))) 0 1)) = fxF (fK (va_up F 10 (nI (tkB (I 2) len p))) (tkS (I 2) len (tkE (I 2) len (tkE (I 2) len p))) (tkB (I 2) len (tkE (I 2) len (tkE (I 2) len p))) (tkE (I 2) len (tkE (I 2) len (tkE (I 2) len p))) 0 1) (fcL (tmA (I 2) len 5 (tkE (I 2) len p) st.D) (tkB (I 2) len p) (nuA (I 2) len 5 (tkE (I 2) len p))) := fun z => nfF_fc (L := (nuA (I 2) len 5 (tkE (I 2) len p))) ((CR_z hCF).mpr z) rfl ht hok
    have hB : (nfF I (4 * 0 + 0) 5 1 (va_up N 0 (nW (I 2) len (tkE (I 2) len p))) (va_up P 0 (nI (tkB (I 2) len (tkE (I 2) len p)))) (fK (va_up F 10 (nI (tkB (I 2) len p))) (tkS (I 2) len (tkE (I 2) len (tkE (I 2) len p))) (tkB (I 2) len (tkE (I 2) len (tkE (I 2) len p))) (tkE (I 2) len (tkE (I 2) len (tkE (I 2) len p))) 0 1)) 3 = 0 → c < 40 := fun h => tm_lt H.a0 (by omega) (by decide) (show (if I 50 0 < nI 40 then (0 : Int32) else 1) = 0 from (nfF_0 h).2.2.1)
    refine r_end5 (k0 := 0) (k1 := 0) (nt := 1) (K := K) (N := (va_up N 0 (nW (I 2) len (tkE (I 2) len p)))) (P := (va_up P 0 (nI (tkB (I 2) len (tkE (I 2) len p))))) (F := (fK (va_up F 10 (nI (tkB (I 2) len p))) (tkS (I 2) len (tkE (I 2) len (tkE (I 2) len p))) (tkB (I 2) len (tkE (I 2) len (tkE (I 2) len p))) (tkE (I 2) len (tkE (I 2) len (tkE (I 2) len p))) 0 1)) hn hR (by decide) rfl H.a0 hB (fun h => ?_) (fun h => ?_)
    · by_cases z : st.f = 0
      · have hf : ¬ (fcL (tmA (I 2) len 5 (tkE (I 2) len p) st.D) (tkB (I 2) len p) (nuA (I 2) len 5 (tkE (I 2) len p))).1 = 0 := fun q => h (by rw [hnf z]; unfold fxF; rw [if_pos q]; exact (CR_z hCF).mpr z)
        rw [hnf z]
        exact hQ1 (by rw [hq]) I _ _ _ _ (fun _ _ => rfl) ((fxF_o (by decide) (by decide)).trans hlen) (by rw [hq]; exact (fxF_o (by decide) (by decide))) (CR_ft hCF z hf)
      · have e9 : (nfF I (4 * 0 + 0) 5 1 (va_up N 0 (nW (I 2) len (tkE (I 2) len p))) (va_up P 0 (nI (tkB (I 2) len (tkE (I 2) len p)))) (fK (va_up F 10 (nI (tkB (I 2) len p))) (tkS (I 2) len (tkE (I 2) len (tkE (I 2) len p))) (tkB (I 2) len (tkE (I 2) len (tkE (I 2) len p))) (tkE (I 2) len (tkE (I 2) len (tkE (I 2) len p))) 0 1)) = (fK (va_up F 10 (nI (tkB (I 2) len p))) (tkS (I 2) len (tkE (I 2) len (tkE (I 2) len p))) (tkB (I 2) len (tkE (I 2) len (tkE (I 2) len p))) (tkE (I 2) len (tkE (I 2) len (tkE (I 2) len p))) 0 1) := nfF_id (fun q => z ((CR_z hCF).mp q))
        rw [e9]
        refine hQ1 (by rw [hq]) I _ _ _ _ (fun _ _ => rfl) hlen (by rw [hq]; rfl) ?_
        rw [show (stA (I 2) len 5 (tkB (I 2) len p) (tkE (I 2) len p) st) = st by unfold stA; rw [if_neg z]]
        exact hCF
    · have z : st.f = 0 := (CR_z hCF).mp (nfF_0 h).2.1
      have hf : (fcL (tmA (I 2) len 5 (tkE (I 2) len p) st.D) (tkB (I 2) len p) (nuA (I 2) len 5 (tkE (I 2) len p))).1 = 0 := fx_0 fcL_le (by rw [← hnf z]; exact h)
      exact hQ1 (by rw [hq]) _ _ _ _ _ (fun a ha => by unfold waI; rw [m_up_ne (by omega), m_up_ne (by omega), m_up_ne (by omega), m_up_ne (by omega)]) hlen (by rw [hq]; rfl) (CR_te hCF z hf rfl rfl hC.gh hC.gl (by show ∃ c2, WD (waI I c (nI 0) ((va_up N 0 (nW (I 2) len (tkE (I 2) len p))) 0) (-1)) 50 (wkU st.D (st.D 0).toNatClampNeg (nI 0) (nI (vN (I 2) len (tkE (I 2) len p))) (-1)) c2; rw [hN0, hc0]; exact ⟨c + 1, wd_s H (hB h)⟩))
theorem c_line6 {S : Nat × (Nat → Int32)} {d n : Nat} {I : mI} {J : mJ} {R : mR} (hn : 122 ≤ n) (hR : m_fin R) (hRt : R 40 5 = some 2) {F K N P : Nat → Int32} {len : Nat} (hlen : F 6 = nI len) (hl6 : len ≤ 600) {p : Nat} (hp : p ≤ len) (h7 : F 7 = nI (tkS (I 2) len p)) (h8 : F 8 = nI (tkB (I 2) len p)) (h9 : F 9 = nI (tkE (I 2) len p)) {st : TS} (hC : CR 1 st I F) (hln : lA (I 2) len 1 p = nI 6) {Q : Option Value → mI → mJ → mR → Prop} (hQ0 : (ms (I 2) len (shA 6) (tkE (I 2) len p)).1 = false → ∀ F' K' N' P', F' 8 = nI (tkB (I 2) len (ms (I 2) len (shA 6) (tkE (I 2) len p)).2) → Q (some (.int 0)) (rM I F' K' N' P') J R) (hQ1 : (ms (I 2) len (shA 6) (tkE (I 2) len p)).1 = true → ∀ A F' K' N' P', (∀ a, a < 41 ∨ 56 < a → A a = I a) → F' 6 = nI len → F' 9 = nI (tkE (I 2) len (ms (I 2) len (shA 6) (tkE (I 2) len p)).2) → CR 1 (stA (I 2) len 6 (tkB (I 2) len p) (tkE (I 2) len p) st) A F' → Q (some (.int 1)) (rM A F' K' N' P') J R) : AW S (d + 7) YReader_readLine n n Q 0 [(0, .ref 40), (1, .int (nI 1))] [] (m_row (m_row (m_row (m_row I 40 F) 57 K) 58 N) 59 P) J R n := by
  have hb := tkB_le (T := I 2) hp
  have he := tkE_le (T := I 2) hp
  have hm : (ms (I 2) len (shA 6) (tkE (I 2) len p)) = if (rlX (I 2) len 14 2 (tkE (I 2) len p) K N P).1 = true then (decide (tkS (I 2) len (rlX (I 2) len 14 2 (tkE (I 2) len p) K N P).2.1 = 3), (rlX (I 2) len 14 2 (tkE (I 2) len p) K N P).2.1) else (false, (rlX (I 2) len 14 2 (tkE (I 2) len p) K N P).2.1) := shF_ms (T := I 2) (len := len) (i := 14) (shA 6) 0 (tkE (I 2) len p) (0, 0, K, N, P) (by decide)
  refine r_line6 hn hR hRt hlen hl6 h7 h8 h9 tkS_le he.1 he.2 hln (fun h => ?_) (fun ho hst => ?_)
  · have hq : (ms (I 2) len (shA 6) (tkE (I 2) len p)) = (false, (rlX (I 2) len 14 2 (tkE (I 2) len p) K N P).2.1) := by
      rw [hm]
      by_cases c : (rlX (I 2) len 14 2 (tkE (I 2) len p) K N P).1 = true
      · rw [if_pos c, decide_eq_false (h.resolve_left (by rw [c]; decide))]
      · rw [if_neg c]
    exact hQ0 (by rw [hq]) _ _ _ _ (by rw [hq]; rfl)
  · obtain ⟨t0, t1, hX⟩ := rx14 ho
    have hq : (ms (I 2) len (shA 6) (tkE (I 2) len p)) = (true, (tkE (I 2) len (tkE (I 2) len (tkE (I 2) len p)))) := by rw [hm, if_pos ho, decide_eq_true hst, hX]
    have hM : rlM I F (tkB (I 2) len p) len (rlX (I 2) len 14 2 (tkE (I 2) len p) K N P) = (rM I (fK (va_up F 10 (nI (tkB (I 2) len p))) (tkS (I 2) len (tkE (I 2) len (tkE (I 2) len (tkE (I 2) len p)))) (tkB (I 2) len (tkE (I 2) len (tkE (I 2) len (tkE (I 2) len p)))) (tkE (I 2) len (tkE (I 2) len (tkE (I 2) len (tkE (I 2) len p)))) 0 2) K (va_up (va_up N 0 (nW (I 2) len (tkE (I 2) len p))) 1 (nW (I 2) len (tkE (I 2) len (tkE (I 2) len p)))) (va_up (va_up P 0 (nI (tkB (I 2) len (tkE (I 2) len p)))) 1 (nI (tkB (I 2) len (tkE (I 2) len (tkE (I 2) len p)))))) := by rw [hX]
    refine a_mem hM ?_
    clear hM hm
    have hCF : CR 1 st I (fK (va_up F 10 (nI (tkB (I 2) len p))) (tkS (I 2) len (tkE (I 2) len (tkE (I 2) len (tkE (I 2) len p)))) (tkB (I 2) len (tkE (I 2) len (tkE (I 2) len (tkE (I 2) len p)))) (tkE (I 2) len (tkE (I 2) len (tkE (I 2) len (tkE (I 2) len p)))) 0 2) := CR_F hC rfl rfl rfl rfl
    have q0 : (tkE (I 2) len p) ≤ len := he.2
    have q1 : (tkE (I 2) len (tkE (I 2) len p)) ≤ len := (tkE_le (T := I 2) q0).2
    have q2 : (tkE (I 2) len (tkE (I 2) len (tkE (I 2) len p))) ≤ len := (tkE_le (T := I 2) q1).2
    have v0 := vN_of q0 t0
    have hN0 : (va_up (va_up N 0 (nW (I 2) len (tkE (I 2) len p))) 1 (nW (I 2) len (tkE (I 2) len (tkE (I 2) len p)))) 0 = nI (vN (I 2) len (tkE (I 2) len p)) := v0.2
    have v1 := vN_of q1 t1
    have hN1 : (va_up (va_up N 0 (nW (I 2) len (tkE (I 2) len p))) 1 (nW (I 2) len (tkE (I 2) len (tkE (I 2) len p)))) 1 = nI (vN (I 2) len (tkE (I 2) len (tkE (I 2) len p))) := v1.2
    obtain ⟨c, H⟩ := (show ∃ c, WD I 50 st.D c from hC.da)
    have h10 := H.c40
    have hc0 : (st.D 0).toNatClampNeg = c := by rw [H.d0]; exact nI_clamp (by omega)
    have ht : (tmA (I 2) len 6 (tkE (I 2) len p) st.D) = true ↔ ¬ tmV I (4 * 0 + 0) 6 = 0 := tm_eq (x := I 50 0) (y := st.D 0) H.a0 H.d0 h10 (by decide)
    have hok : okL 6 (va_up (va_up N 0 (nW (I 2) len (tkE (I 2) len p))) 1 (nW (I 2) len (tkE (I 2) len (tkE (I 2) len p)))) (va_up (va_up P 0 (nI (tkB (I 2) len (tkE (I 2) len p)))) 1 (nI (tkB (I 2) len (tkE (I 2) len (tkE (I 2) len p))))) 0 (nuA (I 2) len 6 (tkE (I 2) len p)) := (And.intro (And.intro (bd_nb (l := 6) (k := 0) (lo := 0) (hi := 9) hN0 v0.1 (by decide) (by decide) (by decide) (by decide) (by decide)) rfl) (And.intro (And.intro (bd_nb (l := 6) (k := 1) (lo := 0) (hi := 5) hN1 v1.1 (by decide) (by decide) (by decide) (by decide) (by decide)) rfl) trivial))
    have hnf : st.f = 0 → (nfF I (4 * 0 + 0) 6 2 (va_up (va_up N 0 (nW (I 2) len (tkE (I 2) len p))) 1 (nW (I 2) len (tkE (I 2) len (tkE (I 2) len p)))) (va_up (va_up P 0 (nI (tkB (I 2) len (tkE (I 2) len p)))) 1 (nI (tkB (I 2) len (tkE (I 2) len (tkE (I 2) len p))))) (fK (va_up F 10 (nI (tkB (I 2) len p))) (tkS (I 2) len (tkE (I 2) len (tkE (I 2) len (tkE (I 2) len p)))) (tkB (I 2) len (tkE (I 2) len (tkE (I 2) len (tkE (I 2) len p)))) (tkE (I 2) len (tkE (I 2) len (tkE (I 2) len (tkE (I 2) len p)))) 0 2)) = fxF (fK (va_up F 10 (nI (tkB (I 2) len p))) (tkS (I 2) len (tkE (I 2) len (tkE (I 2) len (tkE (I 2) len p)))) (tkB (I 2) len (tkE (I 2) len (tkE (I 2) len (tkE (I 2) len p)))) (tkE (I 2) len (tkE (I 2) len (tkE (I 2) len (tkE (I 2) len p)))) 0 2) (fcL (tmA (I 2) len 6 (tkE (I 2) len p) st.D) (tkB (I 2) len p) (nuA (I 2) len 6 (tkE (I 2) len p))) := fun z => nfF_fc (L := (nuA (I 2) len 6 (tkE (I 2) len p))) ((CR_z hCF).mpr z) rfl ht hok
    have hB : (nfF I (4 * 0 + 0) 6 2 (va_up (va_up N 0 (nW (I 2) len (tkE (I 2) len p))) 1 (nW (I 2) len (tkE (I 2) len (tkE (I 2) len p)))) (va_up (va_up P 0 (nI (tkB (I 2) len (tkE (I 2) len p)))) 1 (nI (tkB (I 2) len (tkE (I 2) len (tkE (I 2) len p))))) (fK (va_up F 10 (nI (tkB (I 2) len p))) (tkS (I 2) len (tkE (I 2) len (tkE (I 2) len (tkE (I 2) len p)))) (tkB (I 2) len (tkE (I 2) len (tkE (I 2) len (tkE (I 2) len p)))) (tkE (I 2) len (tkE (I 2) len (tkE (I 2) len (tkE (I 2) len p)))) 0 2)) 3 = 0 → c < 40 := fun h => tm_lt H.a0 (by omega) (by decide) (show (if I 50 0 < nI 40 then (0 : Int32) else 1) = 0 from (nfF_0 h).2.2.1)
    refine r_end6 (k0 := 0) (k1 := 0) (nt := 2) (K := K) (N := (va_up (va_up N 0 (nW (I 2) len (tkE (I 2) len p))) 1 (nW (I 2) len (tkE (I 2) len (tkE (I 2) len p))))) (P := (va_up (va_up P 0 (nI (tkB (I 2) len (tkE (I 2) len p)))) 1 (nI (tkB (I 2) len (tkE (I 2) len (tkE (I 2) len p)))))) (F := (fK (va_up F 10 (nI (tkB (I 2) len p))) (tkS (I 2) len (tkE (I 2) len (tkE (I 2) len (tkE (I 2) len p)))) (tkB (I 2) len (tkE (I 2) len (tkE (I 2) len (tkE (I 2) len p)))) (tkE (I 2) len (tkE (I 2) len (tkE (I 2) len (tkE (I 2) len p)))) 0 2)) hn hR (by decide) rfl H.a0 hB (fun h => ?_) (fun h => ?_)
    · by_cases z : st.f = 0
      · have hf : ¬ (fcL (tmA (I 2) len 6 (tkE (I 2) len p) st.D) (tkB (I 2) len p) (nuA (I 2) len 6 (tkE (I 2) len p))).1 = 0 := fun q => h (by rw [hnf z]; unfold fxF; rw [if_pos q]; exact (CR_z hCF).mpr z)
        rw [hnf z]
        exact hQ1 (by rw [hq]) I _ _ _ _ (fun _ _ => rfl) ((fxF_o (by decide) (by decide)).trans hlen) (by rw [hq]; exact (fxF_o (by decide) (by decide))) (CR_ft hCF z hf)
      · have e9 : (nfF I (4 * 0 + 0) 6 2 (va_up (va_up N 0 (nW (I 2) len (tkE (I 2) len p))) 1 (nW (I 2) len (tkE (I 2) len (tkE (I 2) len p)))) (va_up (va_up P 0 (nI (tkB (I 2) len (tkE (I 2) len p)))) 1 (nI (tkB (I 2) len (tkE (I 2) len (tkE (I 2) len p))))) (fK (va_up F 10 (nI (tkB (I 2) len p))) (tkS (I 2) len (tkE (I 2) len (tkE (I 2) len (tkE (I 2) len p)))) (tkB (I 2) len (tkE (I 2) len (tkE (I 2) len (tkE (I 2) len p)))) (tkE (I 2) len (tkE (I 2) len (tkE (I 2) len (tkE (I 2) len p)))) 0 2)) = (fK (va_up F 10 (nI (tkB (I 2) len p))) (tkS (I 2) len (tkE (I 2) len (tkE (I 2) len (tkE (I 2) len p)))) (tkB (I 2) len (tkE (I 2) len (tkE (I 2) len (tkE (I 2) len p)))) (tkE (I 2) len (tkE (I 2) len (tkE (I 2) len (tkE (I 2) len p)))) 0 2) := nfF_id (fun q => z ((CR_z hCF).mp q))
        rw [e9]
        refine hQ1 (by rw [hq]) I _ _ _ _ (fun _ _ => rfl) hlen (by rw [hq]; rfl) ?_
        rw [show (stA (I 2) len 6 (tkB (I 2) len p) (tkE (I 2) len p) st) = st by unfold stA; rw [if_neg z]]
        exact hCF
    · have z : st.f = 0 := (CR_z hCF).mp (nfF_0 h).2.1
      have hf : (fcL (tmA (I 2) len 6 (tkE (I 2) len p) st.D) (tkB (I 2) len p) (nuA (I 2) len 6 (tkE (I 2) len p))).1 = 0 := fx_0 fcL_le (by rw [← hnf z]; exact h)
      exact hQ1 (by rw [hq]) _ _ _ _ _ (fun a ha => by unfold waI; rw [m_up_ne (by omega), m_up_ne (by omega), m_up_ne (by omega), m_up_ne (by omega)]) hlen (by rw [hq]; rfl) (CR_te hCF z hf rfl rfl hC.gh hC.gl (by show ∃ c2, WD (waI I c (nI 1) ((va_up (va_up N 0 (nW (I 2) len (tkE (I 2) len p))) 1 (nW (I 2) len (tkE (I 2) len (tkE (I 2) len p)))) 0) ((va_up (va_up N 0 (nW (I 2) len (tkE (I 2) len p))) 1 (nW (I 2) len (tkE (I 2) len (tkE (I 2) len p)))) 1)) 50 (wkU st.D (st.D 0).toNatClampNeg (nI 1) (nI (vN (I 2) len (tkE (I 2) len p))) (nI (vN (I 2) len (tkE (I 2) len (tkE (I 2) len p))))) c2; rw [hN0, hN1, hc0]; exact ⟨c + 1, wd_s H (hB h)⟩))
theorem c_line7 {S : Nat × (Nat → Int32)} {d n : Nat} {I : mI} {J : mJ} {R : mR} (hn : 122 ≤ n) (hR : m_fin R) (hRt : R 40 5 = some 2) {F K N P : Nat → Int32} {len : Nat} (hlen : F 6 = nI len) (hl6 : len ≤ 600) {p : Nat} (hp : p ≤ len) (h7 : F 7 = nI (tkS (I 2) len p)) (h8 : F 8 = nI (tkB (I 2) len p)) (h9 : F 9 = nI (tkE (I 2) len p)) {st : TS} (hC : CR 1 st I F) (hln : lA (I 2) len 1 p = nI 7) {Q : Option Value → mI → mJ → mR → Prop} (hQ0 : (ms (I 2) len (shA 7) (tkE (I 2) len p)).1 = false → ∀ F' K' N' P', F' 8 = nI (tkB (I 2) len (ms (I 2) len (shA 7) (tkE (I 2) len p)).2) → Q (some (.int 0)) (rM I F' K' N' P') J R) (hQ1 : (ms (I 2) len (shA 7) (tkE (I 2) len p)).1 = true → ∀ A F' K' N' P', (∀ a, a < 41 ∨ 56 < a → A a = I a) → F' 6 = nI len → F' 9 = nI (tkE (I 2) len (ms (I 2) len (shA 7) (tkE (I 2) len p)).2) → CR 1 (stA (I 2) len 7 (tkB (I 2) len p) (tkE (I 2) len p) st) A F' → Q (some (.int 1)) (rM A F' K' N' P') J R) : AW S (d + 7) YReader_readLine n n Q 0 [(0, .ref 40), (1, .int (nI 1))] [] (m_row (m_row (m_row (m_row I 40 F) 57 K) 58 N) 59 P) J R n := by
  have hb := tkB_le (T := I 2) hp
  have he := tkE_le (T := I 2) hp
  have hm : (ms (I 2) len (shA 7) (tkE (I 2) len p)) = if (rlX (I 2) len 9 1 (tkE (I 2) len p) K N P).1 = true then (decide (tkS (I 2) len (rlX (I 2) len 9 1 (tkE (I 2) len p) K N P).2.1 = 3), (rlX (I 2) len 9 1 (tkE (I 2) len p) K N P).2.1) else (false, (rlX (I 2) len 9 1 (tkE (I 2) len p) K N P).2.1) := shF_ms (T := I 2) (len := len) (i := 9) (shA 7) 0 (tkE (I 2) len p) (0, 0, K, N, P) (by decide)
  refine r_line7 hn hR hRt hlen hl6 h7 h8 h9 tkS_le he.1 he.2 hln (fun h => ?_) (fun ho hst => ?_)
  · have hq : (ms (I 2) len (shA 7) (tkE (I 2) len p)) = (false, (rlX (I 2) len 9 1 (tkE (I 2) len p) K N P).2.1) := by
      rw [hm]
      by_cases c : (rlX (I 2) len 9 1 (tkE (I 2) len p) K N P).1 = true
      · rw [if_pos c, decide_eq_false (h.resolve_left (by rw [c]; decide))]
      · rw [if_neg c]
    exact hQ0 (by rw [hq]) _ _ _ _ (by rw [hq]; rfl)
  · obtain ⟨t0, hX⟩ := rx9 ho
    have hq : (ms (I 2) len (shA 7) (tkE (I 2) len p)) = (true, (tkE (I 2) len (tkE (I 2) len p))) := by rw [hm, if_pos ho, decide_eq_true hst, hX]
    have hM : rlM I F (tkB (I 2) len p) len (rlX (I 2) len 9 1 (tkE (I 2) len p) K N P) = (rM I (fK (va_up F 10 (nI (tkB (I 2) len p))) (tkS (I 2) len (tkE (I 2) len (tkE (I 2) len p))) (tkB (I 2) len (tkE (I 2) len (tkE (I 2) len p))) (tkE (I 2) len (tkE (I 2) len (tkE (I 2) len p))) 0 1) K (va_up N 0 (nW (I 2) len (tkE (I 2) len p))) (va_up P 0 (nI (tkB (I 2) len (tkE (I 2) len p))))) := by rw [hX]
    refine a_mem hM ?_
    clear hM hm
    have hCF : CR 1 st I (fK (va_up F 10 (nI (tkB (I 2) len p))) (tkS (I 2) len (tkE (I 2) len (tkE (I 2) len p))) (tkB (I 2) len (tkE (I 2) len (tkE (I 2) len p))) (tkE (I 2) len (tkE (I 2) len (tkE (I 2) len p))) 0 1) := CR_F hC rfl rfl rfl rfl
    have q0 : (tkE (I 2) len p) ≤ len := he.2
    have q1 : (tkE (I 2) len (tkE (I 2) len p)) ≤ len := (tkE_le (T := I 2) q0).2
    have v0 := vN_of q0 t0
    have hN0 : (va_up N 0 (nW (I 2) len (tkE (I 2) len p))) 0 = nI (vN (I 2) len (tkE (I 2) len p)) := v0.2
    obtain ⟨c, H⟩ := (show ∃ c, WD I 50 st.D c from hC.da)
    have h10 := H.c40
    have hc0 : (st.D 0).toNatClampNeg = c := by rw [H.d0]; exact nI_clamp (by omega)
    have ht : (tmA (I 2) len 7 (tkE (I 2) len p) st.D) = true ↔ ¬ tmV I (4 * 0 + 0) 7 = 0 := tm_eq (x := I 50 0) (y := st.D 0) H.a0 H.d0 h10 (by decide)
    have hok : okL 7 (va_up N 0 (nW (I 2) len (tkE (I 2) len p))) (va_up P 0 (nI (tkB (I 2) len (tkE (I 2) len p)))) 0 (nuA (I 2) len 7 (tkE (I 2) len p)) := (And.intro (And.intro (bd_nb (l := 7) (k := 0) (lo := 0) (hi := 9) hN0 v0.1 (by decide) (by decide) (by decide) (by decide) (by decide)) rfl) trivial)
    have hnf : st.f = 0 → (nfF I (4 * 0 + 0) 7 1 (va_up N 0 (nW (I 2) len (tkE (I 2) len p))) (va_up P 0 (nI (tkB (I 2) len (tkE (I 2) len p)))) (fK (va_up F 10 (nI (tkB (I 2) len p))) (tkS (I 2) len (tkE (I 2) len (tkE (I 2) len p))) (tkB (I 2) len (tkE (I 2) len (tkE (I 2) len p))) (tkE (I 2) len (tkE (I 2) len (tkE (I 2) len p))) 0 1)) = fxF (fK (va_up F 10 (nI (tkB (I 2) len p))) (tkS (I 2) len (tkE (I 2) len (tkE (I 2) len p))) (tkB (I 2) len (tkE (I 2) len (tkE (I 2) len p))) (tkE (I 2) len (tkE (I 2) len (tkE (I 2) len p))) 0 1) (fcL (tmA (I 2) len 7 (tkE (I 2) len p) st.D) (tkB (I 2) len p) (nuA (I 2) len 7 (tkE (I 2) len p))) := fun z => nfF_fc (L := (nuA (I 2) len 7 (tkE (I 2) len p))) ((CR_z hCF).mpr z) rfl ht hok
    have hB : (nfF I (4 * 0 + 0) 7 1 (va_up N 0 (nW (I 2) len (tkE (I 2) len p))) (va_up P 0 (nI (tkB (I 2) len (tkE (I 2) len p)))) (fK (va_up F 10 (nI (tkB (I 2) len p))) (tkS (I 2) len (tkE (I 2) len (tkE (I 2) len p))) (tkB (I 2) len (tkE (I 2) len (tkE (I 2) len p))) (tkE (I 2) len (tkE (I 2) len (tkE (I 2) len p))) 0 1)) 3 = 0 → c < 40 := fun h => tm_lt H.a0 (by omega) (by decide) (show (if I 50 0 < nI 40 then (0 : Int32) else 1) = 0 from (nfF_0 h).2.2.1)
    refine r_end7 (k0 := 0) (k1 := 0) (nt := 1) (K := K) (N := (va_up N 0 (nW (I 2) len (tkE (I 2) len p)))) (P := (va_up P 0 (nI (tkB (I 2) len (tkE (I 2) len p))))) (F := (fK (va_up F 10 (nI (tkB (I 2) len p))) (tkS (I 2) len (tkE (I 2) len (tkE (I 2) len p))) (tkB (I 2) len (tkE (I 2) len (tkE (I 2) len p))) (tkE (I 2) len (tkE (I 2) len (tkE (I 2) len p))) 0 1)) hn hR (by decide) rfl H.a0 hB (fun h => ?_) (fun h => ?_)
    · by_cases z : st.f = 0
      · have hf : ¬ (fcL (tmA (I 2) len 7 (tkE (I 2) len p) st.D) (tkB (I 2) len p) (nuA (I 2) len 7 (tkE (I 2) len p))).1 = 0 := fun q => h (by rw [hnf z]; unfold fxF; rw [if_pos q]; exact (CR_z hCF).mpr z)
        rw [hnf z]
        exact hQ1 (by rw [hq]) I _ _ _ _ (fun _ _ => rfl) ((fxF_o (by decide) (by decide)).trans hlen) (by rw [hq]; exact (fxF_o (by decide) (by decide))) (CR_ft hCF z hf)
      · have e9 : (nfF I (4 * 0 + 0) 7 1 (va_up N 0 (nW (I 2) len (tkE (I 2) len p))) (va_up P 0 (nI (tkB (I 2) len (tkE (I 2) len p)))) (fK (va_up F 10 (nI (tkB (I 2) len p))) (tkS (I 2) len (tkE (I 2) len (tkE (I 2) len p))) (tkB (I 2) len (tkE (I 2) len (tkE (I 2) len p))) (tkE (I 2) len (tkE (I 2) len (tkE (I 2) len p))) 0 1)) = (fK (va_up F 10 (nI (tkB (I 2) len p))) (tkS (I 2) len (tkE (I 2) len (tkE (I 2) len p))) (tkB (I 2) len (tkE (I 2) len (tkE (I 2) len p))) (tkE (I 2) len (tkE (I 2) len (tkE (I 2) len p))) 0 1) := nfF_id (fun q => z ((CR_z hCF).mp q))
        rw [e9]
        refine hQ1 (by rw [hq]) I _ _ _ _ (fun _ _ => rfl) hlen (by rw [hq]; rfl) ?_
        rw [show (stA (I 2) len 7 (tkB (I 2) len p) (tkE (I 2) len p) st) = st by unfold stA; rw [if_neg z]]
        exact hCF
    · have z : st.f = 0 := (CR_z hCF).mp (nfF_0 h).2.1
      have hf : (fcL (tmA (I 2) len 7 (tkE (I 2) len p) st.D) (tkB (I 2) len p) (nuA (I 2) len 7 (tkE (I 2) len p))).1 = 0 := fx_0 fcL_le (by rw [← hnf z]; exact h)
      exact hQ1 (by rw [hq]) _ _ _ _ _ (fun a ha => by unfold waI; rw [m_up_ne (by omega), m_up_ne (by omega), m_up_ne (by omega), m_up_ne (by omega)]) hlen (by rw [hq]; rfl) (CR_te hCF z hf rfl rfl hC.gh hC.gl (by show ∃ c2, WD (waI I c (nI 2) ((va_up N 0 (nW (I 2) len (tkE (I 2) len p))) 0) (-1)) 50 (wkU st.D (st.D 0).toNatClampNeg (nI 2) (nI (vN (I 2) len (tkE (I 2) len p))) (-1)) c2; rw [hN0, hc0]; exact ⟨c + 1, wd_s H (hB h)⟩))
theorem c_line8 {S : Nat × (Nat → Int32)} {d n : Nat} {I : mI} {J : mJ} {R : mR} (hn : 122 ≤ n) (hR : m_fin R) (hRt : R 40 5 = some 2) {F K N P : Nat → Int32} {len : Nat} (hlen : F 6 = nI len) (hl6 : len ≤ 600) {p : Nat} (hp : p ≤ len) (h7 : F 7 = nI (tkS (I 2) len p)) (h8 : F 8 = nI (tkB (I 2) len p)) (h9 : F 9 = nI (tkE (I 2) len p)) {st : TS} (hC : CR 1 st I F) (hln : lA (I 2) len 1 p = nI 8) {Q : Option Value → mI → mJ → mR → Prop} (hQ0 : (ms (I 2) len (shA 8) (tkE (I 2) len p)).1 = false → ∀ F' K' N' P', F' 8 = nI (tkB (I 2) len (ms (I 2) len (shA 8) (tkE (I 2) len p)).2) → Q (some (.int 0)) (rM I F' K' N' P') J R) (hQ1 : (ms (I 2) len (shA 8) (tkE (I 2) len p)).1 = true → ∀ A F' K' N' P', (∀ a, a < 41 ∨ 56 < a → A a = I a) → F' 6 = nI len → F' 9 = nI (tkE (I 2) len (ms (I 2) len (shA 8) (tkE (I 2) len p)).2) → CR 1 (stA (I 2) len 8 (tkB (I 2) len p) (tkE (I 2) len p) st) A F' → Q (some (.int 1)) (rM A F' K' N' P') J R) : AW S (d + 7) YReader_readLine n n Q 0 [(0, .ref 40), (1, .int (nI 1))] [] (m_row (m_row (m_row (m_row I 40 F) 57 K) 58 N) 59 P) J R n := by
  have hb := tkB_le (T := I 2) hp
  have he := tkE_le (T := I 2) hp
  have hm : (ms (I 2) len (shA 8) (tkE (I 2) len p)) = if (rlX (I 2) len 13 0 (tkE (I 2) len p) K N P).1 = true then (decide (tkS (I 2) len (rlX (I 2) len 13 0 (tkE (I 2) len p) K N P).2.1 = 3), (rlX (I 2) len 13 0 (tkE (I 2) len p) K N P).2.1) else (false, (rlX (I 2) len 13 0 (tkE (I 2) len p) K N P).2.1) := shF_ms (T := I 2) (len := len) (i := 13) (shA 8) 0 (tkE (I 2) len p) (0, 0, K, N, P) (by decide)
  refine r_line8 hn hR hRt hlen hl6 h7 h8 h9 tkS_le he.1 he.2 hln (fun h => ?_) (fun ho hst => ?_)
  · have hq : (ms (I 2) len (shA 8) (tkE (I 2) len p)) = (false, (rlX (I 2) len 13 0 (tkE (I 2) len p) K N P).2.1) := by
      rw [hm]
      by_cases c : (rlX (I 2) len 13 0 (tkE (I 2) len p) K N P).1 = true
      · rw [if_pos c, decide_eq_false (h.resolve_left (by rw [c]; decide))]
      · rw [if_neg c]
    exact hQ0 (by rw [hq]) _ _ _ _ (by rw [hq]; rfl)
  · have hX := rx13 ho
    have hq : (ms (I 2) len (shA 8) (tkE (I 2) len p)) = (true, (tkE (I 2) len p)) := by rw [hm, if_pos ho, decide_eq_true hst, hX]
    have hM : rlM I F (tkB (I 2) len p) len (rlX (I 2) len 13 0 (tkE (I 2) len p) K N P) = (rM I (fK (va_up F 10 (nI (tkB (I 2) len p))) (tkS (I 2) len (tkE (I 2) len p)) (tkB (I 2) len (tkE (I 2) len p)) (tkE (I 2) len (tkE (I 2) len p)) 0 0) K N P) := by rw [hX]
    refine a_mem hM ?_
    clear hM hm
    have hCF : CR 1 st I (fK (va_up F 10 (nI (tkB (I 2) len p))) (tkS (I 2) len (tkE (I 2) len p)) (tkB (I 2) len (tkE (I 2) len p)) (tkE (I 2) len (tkE (I 2) len p)) 0 0) := CR_F hC rfl rfl rfl rfl
    have q0 : (tkE (I 2) len p) ≤ len := he.2
    obtain ⟨c, H⟩ := (show ∃ c, WD I 50 st.D c from hC.da)
    have h10 := H.c40
    have hc0 : (st.D 0).toNatClampNeg = c := by rw [H.d0]; exact nI_clamp (by omega)
    have ht : (tmA (I 2) len 8 (tkE (I 2) len p) st.D) = true ↔ ¬ tmV I (4 * 0 + 0) 8 = 0 := tm_eq (x := I 50 0) (y := st.D 0) H.a0 H.d0 h10 (by decide)
    have hok : okL 8 N P 0 (nuA (I 2) len 8 (tkE (I 2) len p)) := trivial
    have hnf : st.f = 0 → (nfF I (4 * 0 + 0) 8 0 N P (fK (va_up F 10 (nI (tkB (I 2) len p))) (tkS (I 2) len (tkE (I 2) len p)) (tkB (I 2) len (tkE (I 2) len p)) (tkE (I 2) len (tkE (I 2) len p)) 0 0)) = fxF (fK (va_up F 10 (nI (tkB (I 2) len p))) (tkS (I 2) len (tkE (I 2) len p)) (tkB (I 2) len (tkE (I 2) len p)) (tkE (I 2) len (tkE (I 2) len p)) 0 0) (fcL (tmA (I 2) len 8 (tkE (I 2) len p) st.D) (tkB (I 2) len p) (nuA (I 2) len 8 (tkE (I 2) len p))) := fun z => nfF_fc (L := (nuA (I 2) len 8 (tkE (I 2) len p))) ((CR_z hCF).mpr z) rfl ht hok
    have hB : (nfF I (4 * 0 + 0) 8 0 N P (fK (va_up F 10 (nI (tkB (I 2) len p))) (tkS (I 2) len (tkE (I 2) len p)) (tkB (I 2) len (tkE (I 2) len p)) (tkE (I 2) len (tkE (I 2) len p)) 0 0)) 3 = 0 → c < 40 := fun h => tm_lt H.a0 (by omega) (by decide) (show (if I 50 0 < nI 40 then (0 : Int32) else 1) = 0 from (nfF_0 h).2.2.1)
    refine r_end8 (k0 := 0) (k1 := 0) (nt := 0) (K := K) (N := N) (P := P) (F := (fK (va_up F 10 (nI (tkB (I 2) len p))) (tkS (I 2) len (tkE (I 2) len p)) (tkB (I 2) len (tkE (I 2) len p)) (tkE (I 2) len (tkE (I 2) len p)) 0 0)) hn hR (by decide) rfl H.a0 hB (fun h => ?_) (fun h => ?_)
    · by_cases z : st.f = 0
      · have hf : ¬ (fcL (tmA (I 2) len 8 (tkE (I 2) len p) st.D) (tkB (I 2) len p) (nuA (I 2) len 8 (tkE (I 2) len p))).1 = 0 := fun q => h (by rw [hnf z]; unfold fxF; rw [if_pos q]; exact (CR_z hCF).mpr z)
        rw [hnf z]
        exact hQ1 (by rw [hq]) I _ _ _ _ (fun _ _ => rfl) ((fxF_o (by decide) (by decide)).trans hlen) (by rw [hq]; exact (fxF_o (by decide) (by decide))) (CR_ft hCF z hf)
      · have e9 : (nfF I (4 * 0 + 0) 8 0 N P (fK (va_up F 10 (nI (tkB (I 2) len p))) (tkS (I 2) len (tkE (I 2) len p)) (tkB (I 2) len (tkE (I 2) len p)) (tkE (I 2) len (tkE (I 2) len p)) 0 0)) = (fK (va_up F 10 (nI (tkB (I 2) len p))) (tkS (I 2) len (tkE (I 2) len p)) (tkB (I 2) len (tkE (I 2) len p)) (tkE (I 2) len (tkE (I 2) len p)) 0 0) := nfF_id (fun q => z ((CR_z hCF).mp q))
        rw [e9]
        refine hQ1 (by rw [hq]) I _ _ _ _ (fun _ _ => rfl) hlen (by rw [hq]; rfl) ?_
        rw [show (stA (I 2) len 8 (tkB (I 2) len p) (tkE (I 2) len p) st) = st by unfold stA; rw [if_neg z]]
        exact hCF
    · have z : st.f = 0 := (CR_z hCF).mp (nfF_0 h).2.1
      have hf : (fcL (tmA (I 2) len 8 (tkE (I 2) len p) st.D) (tkB (I 2) len p) (nuA (I 2) len 8 (tkE (I 2) len p))).1 = 0 := fx_0 fcL_le (by rw [← hnf z]; exact h)
      exact hQ1 (by rw [hq]) _ _ _ _ _ (fun a ha => by unfold waI; rw [m_up_ne (by omega), m_up_ne (by omega), m_up_ne (by omega), m_up_ne (by omega)]) hlen (by rw [hq]; rfl) (CR_te hCF z hf rfl rfl hC.gh hC.gl (by show ∃ c2, WD (waI I c (nI 3) (-1) (-1)) 50 (wkU st.D (st.D 0).toNatClampNeg (nI 3) (-1) (-1)) c2; rw [hc0]; exact ⟨c + 1, wd_s H (hB h)⟩))
theorem c_line9 {S : Nat × (Nat → Int32)} {d n : Nat} {I : mI} {J : mJ} {R : mR} (hn : 122 ≤ n) (hR : m_fin R) (hRt : R 40 5 = some 2) {F K N P : Nat → Int32} {len : Nat} (hlen : F 6 = nI len) (hl6 : len ≤ 600) {p : Nat} (hp : p ≤ len) (h7 : F 7 = nI (tkS (I 2) len p)) (h8 : F 8 = nI (tkB (I 2) len p)) (h9 : F 9 = nI (tkE (I 2) len p)) {st : TS} (hC : CR 2 st I F) (hln : lA (I 2) len 2 p = nI 9) {Q : Option Value → mI → mJ → mR → Prop} (hQ0 : (ms (I 2) len (shA 9) (tkE (I 2) len p)).1 = false → ∀ F' K' N' P', F' 8 = nI (tkB (I 2) len (ms (I 2) len (shA 9) (tkE (I 2) len p)).2) → Q (some (.int 0)) (rM I F' K' N' P') J R) (hQ1 : (ms (I 2) len (shA 9) (tkE (I 2) len p)).1 = true → ∀ A F' K' N' P', (∀ a, a < 41 ∨ 56 < a → A a = I a) → F' 6 = nI len → F' 9 = nI (tkE (I 2) len (ms (I 2) len (shA 9) (tkE (I 2) len p)).2) → CR 2 (stA (I 2) len 9 (tkB (I 2) len p) (tkE (I 2) len p) st) A F' → Q (some (.int 1)) (rM A F' K' N' P') J R) : AW S (d + 7) YReader_readLine n n Q 0 [(0, .ref 40), (1, .int (nI 2))] [] (m_row (m_row (m_row (m_row I 40 F) 57 K) 58 N) 59 P) J R n := by
  have hb := tkB_le (T := I 2) hp
  have he := tkE_le (T := I 2) hp
  have hm : (ms (I 2) len (shA 9) (tkE (I 2) len p)) = if (rlX (I 2) len 14 2 (tkE (I 2) len p) K N P).1 = true then (decide (tkS (I 2) len (rlX (I 2) len 14 2 (tkE (I 2) len p) K N P).2.1 = 3), (rlX (I 2) len 14 2 (tkE (I 2) len p) K N P).2.1) else (false, (rlX (I 2) len 14 2 (tkE (I 2) len p) K N P).2.1) := shF_ms (T := I 2) (len := len) (i := 14) (shA 9) 0 (tkE (I 2) len p) (0, 0, K, N, P) (by decide)
  refine r_line9 hn hR hRt hlen hl6 h7 h8 h9 tkS_le he.1 he.2 hln (fun h => ?_) (fun ho hst => ?_)
  · have hq : (ms (I 2) len (shA 9) (tkE (I 2) len p)) = (false, (rlX (I 2) len 14 2 (tkE (I 2) len p) K N P).2.1) := by
      rw [hm]
      by_cases c : (rlX (I 2) len 14 2 (tkE (I 2) len p) K N P).1 = true
      · rw [if_pos c, decide_eq_false (h.resolve_left (by rw [c]; decide))]
      · rw [if_neg c]
    exact hQ0 (by rw [hq]) _ _ _ _ (by rw [hq]; rfl)
  · obtain ⟨t0, t1, hX⟩ := rx14 ho
    have hq : (ms (I 2) len (shA 9) (tkE (I 2) len p)) = (true, (tkE (I 2) len (tkE (I 2) len (tkE (I 2) len p)))) := by rw [hm, if_pos ho, decide_eq_true hst, hX]
    have hM : rlM I F (tkB (I 2) len p) len (rlX (I 2) len 14 2 (tkE (I 2) len p) K N P) = (rM I (fK (va_up F 10 (nI (tkB (I 2) len p))) (tkS (I 2) len (tkE (I 2) len (tkE (I 2) len (tkE (I 2) len p)))) (tkB (I 2) len (tkE (I 2) len (tkE (I 2) len (tkE (I 2) len p)))) (tkE (I 2) len (tkE (I 2) len (tkE (I 2) len (tkE (I 2) len p)))) 0 2) K (va_up (va_up N 0 (nW (I 2) len (tkE (I 2) len p))) 1 (nW (I 2) len (tkE (I 2) len (tkE (I 2) len p)))) (va_up (va_up P 0 (nI (tkB (I 2) len (tkE (I 2) len p)))) 1 (nI (tkB (I 2) len (tkE (I 2) len (tkE (I 2) len p)))))) := by rw [hX]
    refine a_mem hM ?_
    clear hM hm
    have hCF : CR 2 st I (fK (va_up F 10 (nI (tkB (I 2) len p))) (tkS (I 2) len (tkE (I 2) len (tkE (I 2) len (tkE (I 2) len p)))) (tkB (I 2) len (tkE (I 2) len (tkE (I 2) len (tkE (I 2) len p)))) (tkE (I 2) len (tkE (I 2) len (tkE (I 2) len (tkE (I 2) len p)))) 0 2) := CR_F hC rfl rfl rfl rfl
    have q0 : (tkE (I 2) len p) ≤ len := he.2
    have q1 : (tkE (I 2) len (tkE (I 2) len p)) ≤ len := (tkE_le (T := I 2) q0).2
    have q2 : (tkE (I 2) len (tkE (I 2) len (tkE (I 2) len p))) ≤ len := (tkE_le (T := I 2) q1).2
    have v0 := vN_of q0 t0
    have hN0 : (va_up (va_up N 0 (nW (I 2) len (tkE (I 2) len p))) 1 (nW (I 2) len (tkE (I 2) len (tkE (I 2) len p)))) 0 = nI (vN (I 2) len (tkE (I 2) len p)) := v0.2
    have v1 := vN_of q1 t1
    have hN1 : (va_up (va_up N 0 (nW (I 2) len (tkE (I 2) len p))) 1 (nW (I 2) len (tkE (I 2) len (tkE (I 2) len p)))) 1 = nI (vN (I 2) len (tkE (I 2) len (tkE (I 2) len p))) := v1.2
    obtain ⟨c, H⟩ := (show ∃ c, LD I 54 st.D c from hC.da)
    have h10 := H.c8
    have hc0 : (st.D 0).toNatClampNeg = c := by rw [H.d0]; exact nI_clamp (by omega)
    have ht : (tmA (I 2) len 9 (tkE (I 2) len p) st.D) = true ↔ ¬ tmV I (4 * 0 + 0) 9 = 0 := tm_eq (x := I 54 0) (y := st.D 0) H.a0 H.d0 h10 (by decide)
    have hok : okL 9 (va_up (va_up N 0 (nW (I 2) len (tkE (I 2) len p))) 1 (nW (I 2) len (tkE (I 2) len (tkE (I 2) len p)))) (va_up (va_up P 0 (nI (tkB (I 2) len (tkE (I 2) len p)))) 1 (nI (tkB (I 2) len (tkE (I 2) len (tkE (I 2) len p))))) 0 (nuA (I 2) len 9 (tkE (I 2) len p)) := (And.intro (And.intro (bd_nb (l := 9) (k := 0) (lo := 0) (hi := 5) hN0 v0.1 (by decide) (by decide) (by decide) (by decide) (by decide)) rfl) (And.intro (And.intro (bd_nb (l := 9) (k := 1) (lo := 0) (hi := 99) hN1 v1.1 (by decide) (by decide) (by decide) (by decide) (by decide)) rfl) trivial))
    have hnf : st.f = 0 → (nfF I (4 * 0 + 0) 9 2 (va_up (va_up N 0 (nW (I 2) len (tkE (I 2) len p))) 1 (nW (I 2) len (tkE (I 2) len (tkE (I 2) len p)))) (va_up (va_up P 0 (nI (tkB (I 2) len (tkE (I 2) len p)))) 1 (nI (tkB (I 2) len (tkE (I 2) len (tkE (I 2) len p))))) (fK (va_up F 10 (nI (tkB (I 2) len p))) (tkS (I 2) len (tkE (I 2) len (tkE (I 2) len (tkE (I 2) len p)))) (tkB (I 2) len (tkE (I 2) len (tkE (I 2) len (tkE (I 2) len p)))) (tkE (I 2) len (tkE (I 2) len (tkE (I 2) len (tkE (I 2) len p)))) 0 2)) = fxF (fK (va_up F 10 (nI (tkB (I 2) len p))) (tkS (I 2) len (tkE (I 2) len (tkE (I 2) len (tkE (I 2) len p)))) (tkB (I 2) len (tkE (I 2) len (tkE (I 2) len (tkE (I 2) len p)))) (tkE (I 2) len (tkE (I 2) len (tkE (I 2) len (tkE (I 2) len p)))) 0 2) (fcL (tmA (I 2) len 9 (tkE (I 2) len p) st.D) (tkB (I 2) len p) (nuA (I 2) len 9 (tkE (I 2) len p))) := fun z => nfF_fc (L := (nuA (I 2) len 9 (tkE (I 2) len p))) ((CR_z hCF).mpr z) rfl ht hok
    have hB : (nfF I (4 * 0 + 0) 9 2 (va_up (va_up N 0 (nW (I 2) len (tkE (I 2) len p))) 1 (nW (I 2) len (tkE (I 2) len (tkE (I 2) len p)))) (va_up (va_up P 0 (nI (tkB (I 2) len (tkE (I 2) len p)))) 1 (nI (tkB (I 2) len (tkE (I 2) len (tkE (I 2) len p))))) (fK (va_up F 10 (nI (tkB (I 2) len p))) (tkS (I 2) len (tkE (I 2) len (tkE (I 2) len (tkE (I 2) len p)))) (tkB (I 2) len (tkE (I 2) len (tkE (I 2) len (tkE (I 2) len p)))) (tkE (I 2) len (tkE (I 2) len (tkE (I 2) len (tkE (I 2) len p)))) 0 2)) 3 = 0 → c < 8 := fun h => tm_lt H.a0 (by omega) (by decide) (show (if I 54 0 < nI 8 then (0 : Int32) else 1) = 0 from (nfF_0 h).2.2.1)
    refine r_end9 (k0 := 0) (k1 := 0) (nt := 2) (K := K) (N := (va_up (va_up N 0 (nW (I 2) len (tkE (I 2) len p))) 1 (nW (I 2) len (tkE (I 2) len (tkE (I 2) len p))))) (P := (va_up (va_up P 0 (nI (tkB (I 2) len (tkE (I 2) len p)))) 1 (nI (tkB (I 2) len (tkE (I 2) len (tkE (I 2) len p)))))) (F := (fK (va_up F 10 (nI (tkB (I 2) len p))) (tkS (I 2) len (tkE (I 2) len (tkE (I 2) len (tkE (I 2) len p)))) (tkB (I 2) len (tkE (I 2) len (tkE (I 2) len (tkE (I 2) len p)))) (tkE (I 2) len (tkE (I 2) len (tkE (I 2) len (tkE (I 2) len p)))) 0 2)) hn hR (by decide) rfl H.a0 hB (fun h => ?_) (fun h => ?_)
    · by_cases z : st.f = 0
      · have hf : ¬ (fcL (tmA (I 2) len 9 (tkE (I 2) len p) st.D) (tkB (I 2) len p) (nuA (I 2) len 9 (tkE (I 2) len p))).1 = 0 := fun q => h (by rw [hnf z]; unfold fxF; rw [if_pos q]; exact (CR_z hCF).mpr z)
        rw [hnf z]
        exact hQ1 (by rw [hq]) I _ _ _ _ (fun _ _ => rfl) ((fxF_o (by decide) (by decide)).trans hlen) (by rw [hq]; exact (fxF_o (by decide) (by decide))) (CR_ft hCF z hf)
      · have e9 : (nfF I (4 * 0 + 0) 9 2 (va_up (va_up N 0 (nW (I 2) len (tkE (I 2) len p))) 1 (nW (I 2) len (tkE (I 2) len (tkE (I 2) len p)))) (va_up (va_up P 0 (nI (tkB (I 2) len (tkE (I 2) len p)))) 1 (nI (tkB (I 2) len (tkE (I 2) len (tkE (I 2) len p))))) (fK (va_up F 10 (nI (tkB (I 2) len p))) (tkS (I 2) len (tkE (I 2) len (tkE (I 2) len (tkE (I 2) len p)))) (tkB (I 2) len (tkE (I 2) len (tkE (I 2) len (tkE (I 2) len p)))) (tkE (I 2) len (tkE (I 2) len (tkE (I 2) len (tkE (I 2) len p)))) 0 2)) = (fK (va_up F 10 (nI (tkB (I 2) len p))) (tkS (I 2) len (tkE (I 2) len (tkE (I 2) len (tkE (I 2) len p)))) (tkB (I 2) len (tkE (I 2) len (tkE (I 2) len (tkE (I 2) len p)))) (tkE (I 2) len (tkE (I 2) len (tkE (I 2) len (tkE (I 2) len p)))) 0 2) := nfF_id (fun q => z ((CR_z hCF).mp q))
        rw [e9]
        refine hQ1 (by rw [hq]) I _ _ _ _ (fun _ _ => rfl) hlen (by rw [hq]; rfl) ?_
        rw [show (stA (I 2) len 9 (tkB (I 2) len p) (tkE (I 2) len p) st) = st by unfold stA; rw [if_neg z]]
        exact hCF
    · have z : st.f = 0 := (CR_z hCF).mp (nfF_0 h).2.1
      have hf : (fcL (tmA (I 2) len 9 (tkE (I 2) len p) st.D) (tkB (I 2) len p) (nuA (I 2) len 9 (tkE (I 2) len p))).1 = 0 := fx_0 fcL_le (by rw [← hnf z]; exact h)
      exact hQ1 (by rw [hq]) _ _ _ _ _ (fun a ha => by unfold gaI; rw [m_up_ne (by omega), m_up_ne (by omega), m_up_ne (by omega)]) hlen (by rw [hq]; rfl) (CR_te hCF z hf rfl rfl hC.gh hC.gl (by show ∃ c2, LD (gaI I c ((va_up (va_up N 0 (nW (I 2) len (tkE (I 2) len p))) 1 (nW (I 2) len (tkE (I 2) len (tkE (I 2) len p)))) 0) ((va_up (va_up N 0 (nW (I 2) len (tkE (I 2) len p))) 1 (nW (I 2) len (tkE (I 2) len (tkE (I 2) len p)))) 1)) 54 (lgU st.D (st.D 0).toNatClampNeg (nI (vN (I 2) len (tkE (I 2) len p))) (nI (vN (I 2) len (tkE (I 2) len (tkE (I 2) len p))))) c2; rw [hN0, hN1, hc0]; exact ⟨c + 1, ld_s H (hB h)⟩))
