theorem wd_step {n x : Nat} (hn : n < 2 ^ 55) (hx : x < 256) : ((Int64.ofNat n) <<< (8 : Int64)) ||| Int64.ofNat x = Int64.ofNat (n * 256 + x) := by
  apply Int64.toBitVec_inj.mp
  show (BitVec.ofNat 64 n <<< ((8#64 : BitVec 64).smod 64)) ||| BitVec.ofNat 64 x = BitVec.ofNat 64 (n * 256 + x)
  rw [show (8#64 : BitVec 64).smod 64 = 8#64 by decide]
  apply BitVec.eq_of_toNat_eq
  rw [BitVec.toNat_or, BitVec.shiftLeft_eq', BitVec.toNat_shiftLeft, BitVec.toNat_ofNat, BitVec.toNat_ofNat, BitVec.toNat_ofNat, BitVec.toNat_ofNat]
  rw [Nat.mod_eq_of_lt (a := n) (by omega), Nat.mod_eq_of_lt (a := x) (by omega), Nat.mod_eq_of_lt (a := n * 256 + x) (by omega)]
  rw [show 8 % 2 ^ 64 = 8 by decide, Nat.mod_eq_of_lt (by rw [Nat.shiftLeft_eq]; omega)]
  rw [← Nat.shiftLeft_add_eq_or_of_lt (by omega : x < 2 ^ 8), Nat.shiftLeft_eq]
theorem wd_x : ∀ x : Nat, x < 256 → ((nI x) &&& nI 255).toInt64 = Int64.ofNat x := by decide +kernel
theorem wd_8 : ((nI 8).toInt64 &&& 63 : Int64) = 8 := by decide
def vR : List Nat → Nat
  | [] => 0
  | x :: r => x + 256 * vR r
theorem vR_inj : ∀ a b : List Nat, (∀ x ∈ a, 0 < x ∧ x < 256) → (∀ x ∈ b, 0 < x ∧ x < 256) → vR a = vR b → a = b := by
  intro a
  induction a with
  | nil =>
    intro b _ hb h
    cases b with
    | nil => rfl
    | cons y s =>
      have := hb y (List.mem_cons_self ..)
      have h : 0 = y + 256 * vR s := h
      omega
  | cons x r ih =>
    intro b ha hb h
    have hx := ha x (List.mem_cons_self ..)
    cases b with
    | nil =>
      have h : x + 256 * vR r = 0 := h
      omega
    | cons y s =>
      have hy := hb y (List.mem_cons_self ..)
      have h : x + 256 * vR r = y + 256 * vR s := h
      have e : x = y := by omega
      subst e
      rw [ih s (fun z hz => ha z (List.mem_cons_of_mem _ hz)) (fun z hz => hb z (List.mem_cons_of_mem _ hz)) (by omega)]
theorem vR_lt : ∀ a : List Nat, (∀ x ∈ a, x < 128) → vR a < 128 * 256 ^ (a.length - 1) ∨ a = [] := by
  intro a
  induction a with
  | nil => intro _; exact Or.inr rfl
  | cons x r ih =>
    intro h
    left
    have hx := h x (List.mem_cons_self ..)
    show x + 256 * vR r < 128 * 256 ^ (r.length + 1 - 1)
    rcases ih (fun z hz => h z (List.mem_cons_of_mem _ hz)) with q | q
    · cases r with
      | nil => show x + 256 * 0 < 128 * 256 ^ 0; omega
      | cons y s =>
        have q : vR (y :: s) < 128 * 256 ^ s.length := q
        show x + 256 * vR (y :: s) < 128 * 256 ^ (s.length + 1)
        rw [Nat.pow_succ]
        omega
    · subst q; show x + 256 * 0 < 128 * 256 ^ 0; omega
/-- the letters of a word, the last first -/
def lts (T : Nat → Int32) (b : Nat) : Nat → List Nat
  | 0 => []
  | k + 1 => (T (b + k)).toNatClampNeg :: lts T b k
theorem lts_len {T : Nat → Int32} {b : Nat} : ∀ k, (lts T b k).length = k := by
  intro k
  induction k with
  | zero => rfl
  | succ k ih => show (lts T b k).length + 1 = k + 1; rw [ih]
def ltP (T : Nat → Int32) (b k : Nat) : Prop := ∀ j, j < k → ∃ v, v < 26 ∧ T (b + j) = nI (97 + v)
theorem lts_mem {T : Nat → Int32} {b : Nat} : ∀ k, ltP T b k → ∀ x ∈ lts T b k, 97 ≤ x ∧ x < 123 := by
  intro k
  induction k with
  | zero => intro _ x hx; exact absurd hx (List.not_mem_nil)
  | succ k ih =>
    intro h x hx
    rcases List.mem_cons.mp hx with q | q
    · obtain ⟨v, hv, e⟩ := h k (by omega)
      rw [q, e, nI_clamp (by omega)]; omega
    · exact ih (fun j hj => h j (by omega)) x q
theorem lts_eq {T U : Nat → Int32} {b c : Nat} : ∀ k, ltP T b k → ltP U c k → lts T b k = lts U c k → ∀ j, j < k → T (b + j) = U (c + j) := by
  intro k
  induction k with
  | zero => intro _ _ _ j hj; exact absurd hj (by omega)
  | succ k ih =>
    intro h1 h2 h j hj
    have h : (T (b + k)).toNatClampNeg :: lts T b k = (U (c + k)).toNatClampNeg :: lts U c k := h
    have hh := List.cons.inj h
    by_cases e : j = k
    · subst e
      obtain ⟨v, hv, e1⟩ := h1 j (by omega)
      obtain ⟨u, hu, e2⟩ := h2 j (by omega)
      have q := hh.1
      rw [e1, e2, nI_clamp (by omega), nI_clamp (by omega)] at q
      rw [e1, e2, q]
    · exact ih (fun j hj => h1 j (by omega)) (fun j hj => h2 j (by omega)) hh.2 j (by omega)
theorem lts_cg {T U : Nat → Int32} {b c : Nat} : ∀ k, (∀ j, j < k → T (b + j) = U (c + j)) → lts T b k = lts U c k := by
  intro k
  induction k with
  | zero => intro _; rfl
  | succ k ih =>
    intro h
    show (T (b + k)).toNatClampNeg :: lts T b k = (U (c + k)).toNatClampNeg :: lts U c k
    rw [h k (by omega), ih (fun j hj => h j (by omega))]
theorem lts_lt {T : Nat → Int32} {b k : Nat} (h : ltP T b k) (hk : k ≤ 8) : vR (lts T b k) < 2 ^ 63 ∧ (k ≤ 7 → vR (lts T b k) < 2 ^ 55) := by
  have hm := lts_mem k h
  rcases vR_lt (lts T b k) (fun x hx => by have := hm x hx; omega) with q | q
  · rw [lts_len] at q
    constructor
    · have : 256 ^ (k - 1) ≤ 256 ^ 7 := Nat.pow_le_pow_right (by omega) (by omega)
      have e : 128 * 256 ^ 7 = 2 ^ 63 := by decide
      omega
    · intro h7
      have : 256 ^ (k - 1) ≤ 256 ^ 6 := Nat.pow_le_pow_right (by omega) (by omega)
      have e : 128 * 256 ^ 6 = 2 ^ 55 := by decide
      omega
  · rw [q]; exact ⟨by decide, fun _ => by decide⟩
theorem sm_nI {T : Nat → Int32} {p : Nat} (h : smB T p = true) : ∃ v, v < 26 ∧ T p = nI (97 + v) := by
  have h : ¬ f_in (T p) (nI 97) (nI 122) = 0 := of_decide_eq_true h
  unfold f_in at h
  by_cases h1 : T p < nI 97
  · rw [if_pos h1] at h; exact absurd rfl h
  · rw [if_neg h1] at h
    by_cases h2 : nI 122 < T p
    · rw [if_pos h2] at h; exact absurd rfl h
    · rcases nI_or (T p) with h3 | ⟨w, h3, h4⟩
      · exact absurd (Int32.lt_trans h3 (show (0 : Int32) < nI 97 by decide)) h1
      · rw [h4, nI_ltI h3 (by decide)] at h1
        rw [h4, nI_ltI (by decide) h3] at h2
        exact ⟨w - 97, by omega, by rw [h4]; congr 1; omega⟩
theorem wdV_eq {T : Nat → Int32} {b : Nat} : ∀ m k, ltP T b k → spW (smB T) m (b + k) ≤ b + 8 → wdV T m (b + k) (Int64.ofNat (vR (lts T b k))) = Int64.ofNat (vR (lts T b (spW (smB T) m (b + k) - b))) ∧ ltP T b (spW (smB T) m (b + k) - b) := by
  intro m
  induction m with
  | zero => intro k h _; rw [show spW (smB T) 0 (b + k) - b = k by show b + k - b = k; omega]; exact ⟨rfl, h⟩
  | succ m ih =>
    intro k h h8
    by_cases q : smB T (b + k) = true
    · have e : spW (smB T) (m + 1) (b + k) = spW (smB T) m (b + (k + 1)) := by
        show (if smB T (b + k) = true then _ else _) = _; rw [if_pos q]; rfl
      obtain ⟨v, hv, ev⟩ := sm_nI q
      have hP : ltP T b (k + 1) := fun j hj => by
        by_cases ej : j = k
        · subst ej; exact ⟨v, hv, ev⟩
        · exact h j (by omega)
      rw [e] at h8 ⊢
      have hl := spW_le (q := smB T) m (b + (k + 1))
      have r := ih (k + 1) hP h8
      refine ⟨?_, r.2⟩
      rw [← r.1]
      show (if smB T (b + k) = true then _ else _) = _
      rw [if_pos q, ev, wd_8, wd_x (97 + v) (by omega), wd_step ((lts_lt h (by omega)).2 (by omega)) (by omega)]
      show _ = wdV T m (b + k + 1) (Int64.ofNat ((T (b + k)).toNatClampNeg + 256 * vR (lts T b k)))
      rw [ev, nI_clamp (by omega), show vR (lts T b k) * 256 + (97 + v) = 97 + v + 256 * vR (lts T b k) by omega]
    · have e : spW (smB T) (m + 1) (b + k) = b + k := by
        show (if smB T (b + k) = true then _ else _) = _; rw [if_neg q]
      rw [e, show b + k - b = k by omega]
      refine ⟨?_, h⟩
      show (if smB T (b + k) = true then _ else _) = _
      rw [if_neg q]
theorem tk_wd {T : Nat → Int32} {len p : Nat} (h : tkS T len p = 1) : ¬ len ≤ tkB T len p ∧ smB T (tkB T len p) = true := by
  unfold tkS at h
  by_cases h0 : len ≤ tkB T len p
  · rw [if_pos h0] at h; exact absurd h (by decide)
  · rw [if_neg h0] at h
    by_cases h1 : smB T (tkB T len p) = true
    · exact ⟨h0, h1⟩
    · rw [if_neg h1] at h
      by_cases h2 : dgB T (tkB T len p) = true
      · rw [if_pos h2] at h
        by_cases h3 : tkE T len p - tkB T len p ≤ 2
        · rw [if_pos h3] at h; exact absurd h (by decide)
        · rw [if_neg h3] at h; exact absurd h (by decide)
      · rw [if_neg h2] at h
        by_cases h3 : T (tkB T len p) = nI 59
        · rw [if_pos h3] at h; exact absurd h (by decide)
        · rw [if_neg h3] at h; exact absurd h (by decide)
theorem oN_inj {a b : Nat} (ha : a < 2 ^ 63) (hb : b < 2 ^ 63) (h : Int64.ofNat a = Int64.ofNat b) : a = b := by
  have q := congrArg (fun x : Int64 => x.toBitVec.toNat) h
  have e1 : (Int64.ofNat a).toBitVec.toNat = a := by
    show (BitVec.ofNat 64 a).toNat = a; rw [BitVec.toNat_ofNat, Nat.mod_eq_of_lt (by omega)]
  have e2 : (Int64.ofNat b).toBitVec.toNat = b := by
    show (BitVec.ofNat 64 b).toNat = b; rw [BitVec.toNat_ofNat, Nat.mod_eq_of_lt (by omega)]
  rw [← e1, ← e2]; exact q
def tbT (i : Nat) : Nat → Int32 := fun j => (m_byts.getD i []).getD j 0
theorem tbT_P {i : Nat} (h : ∀ j, j < m_lens.getD i 0 → smB (tbT i) j = true) : ltP (tbT i) 0 (m_lens.getD i 0) := fun j hj => by
  rw [Nat.zero_add]; exact sm_nI (h j hj)
/-- the reference's long of a word token -/
theorem tkW_iff {T : Nat → Int32} {len p i : Nat} {w : Int64} (hp : p ≤ len) (h : tkS T len p = 1) (hi : i < 19) (hb : ∀ j, j < m_lens.getD i 0 → smB (tbT i) j = true) (hw : w = Int64.ofNat (vR (lts (tbT i) 0 (m_lens.getD i 0)))) (h0 : ¬ w = 0) : tkW T len p = w ↔ iwP T (tkS T len p) (tkB T len p) (tkE T len p) i := by
  obtain ⟨h1, h2⟩ := tk_wd h
  have hE : tkE T len p = spW (smB T) (len - tkB T len p) (tkB T len p) := by
    unfold tkE; rw [if_neg h1, if_pos h2, spW_1 (by omega) h2]
  have hl7 := st_ln i hi
  have hPi := tbT_P hb
  have hle := spW_le (q := smB T) (len - tkB T len p) (tkB T len p)
  unfold tkW
  rw [if_neg h1, if_pos h2]
  by_cases h8 : tkE T len p - tkB T len p ≤ 8
  · rw [if_pos h8]
    have q := wdV_eq (T := T) (b := tkB T len p) (len - tkB T len p) 0 (fun j hj => absurd hj (by omega)) (by rw [Nat.add_zero, ← hE]; omega)
    rw [Nat.add_zero, ← hE] at q
    have q1 : wdV T (len - tkB T len p) (tkB T len p) 0 = Int64.ofNat (vR (lts T (tkB T len p) (tkE T len p - tkB T len p))) := q.1
    rw [q1, hw]
    constructor
    · intro e
      have e2 := oN_inj (lts_lt q.2 h8).1 (lts_lt hPi (by omega)).1 e
      have m1 := lts_mem _ q.2
      have m2 := lts_mem _ hPi
      have e3 := vR_inj _ _ (fun x hx => by have := m1 x hx; omega) (fun x hx => by have := m2 x hx; omega) e2
      have e4 : tkE T len p - tkB T len p = m_lens.getD i 0 := by
        have := congrArg List.length e3
        rw [lts_len, lts_len] at this; exact this
      refine ⟨h, e4, ?_⟩
      rw [e4] at e3 q
      intro j hj
      have r := lts_eq _ q.2 hPi e3 j hj
      rw [Nat.zero_add] at r; exact r
    · intro e
      obtain ⟨_, e2, e3⟩ := e
      rw [e2, lts_cg (U := tbT i) (c := 0) _ (fun j hj => by rw [Nat.zero_add]; exact e3 j hj)]
  · rw [if_neg h8]
    constructor
    · intro e; exact absurd e.symm h0
    · intro e; exact absurd e.2.1 (by omega)
theorem vlV_nv {T : Nat → Int32} {len b : Nat} (hby : byT T len) : ∀ m p k v, p + m ≤ len → k + (spW (dgB T) m p - p) ≤ 2 → vlV T m p k v = nvC T (spW (dgB T) m p - p) p v := by
  intro m
  induction m with
  | zero => intro p k v _ _; rw [show spW (dgB T) 0 p - p = 0 by show p - p = 0; omega]; rfl
  | succ m ih =>
    intro p k v hp hk
    by_cases q : dgB T p = true
    · have e : spW (dgB T) (m + 1) p = spW (dgB T) m (p + 1) := by
        show (if dgB T p = true then _ else _) = _; rw [if_pos q]
      have hl := spW_le (q := dgB T) m (p + 1)
      rw [e] at hk ⊢
      have hs := dg_nI (of_decide_eq_true q)
      obtain ⟨w, hw, ew⟩ := hs
      show (if dgB T p = true then _ else _) = _
      rw [if_pos q, if_pos (show k < 2 by omega), ih (p + 1) (k + 1) _ (by omega) (by omega)]
      rw [show spW (dgB T) m (p + 1) - p = (spW (dgB T) m (p + 1) - (p + 1)) + 1 by omega]
      show _ = nvC T (spW (dgB T) m (p + 1) - (p + 1)) (p + 1) (nI 10 * v + T p - nI 48)
      rw [sg_n (hby p (by omega)) (by rw [ew]; exact nI_pos (by omega))]
    · have e : spW (dgB T) (m + 1) p = p := by
        show (if dgB T p = true then _ else _) = _; rw [if_neg q]
      rw [e, show p - p = 0 by omega]
      show (if dgB T p = true then _ else _) = _
      rw [if_neg q]; rfl
theorem tkV_vN {T : Nat → Int32} {len p : Nat} {v : Int32} (hby : byT T len) (hp : p ≤ len) (h : tkS T len p = 2) : tkV T len p v = nI (vN T len p) := by
  obtain ⟨h0, h1, h2, h3⟩ := tk_dg h
  have hE : tkE T len p = spW (dgB T) (len - tkB T len p) (tkB T len p) := by
    unfold tkE; rw [if_neg h0, if_neg h1, if_pos h2, spW_1 (by omega) h2]
  unfold tkV
  rw [if_neg h0, if_neg h1, if_pos h2, vlV_nv (b := 0) hby (len - tkB T len p) (tkB T len p) 0 (nI 0) (by omega) (by rw [← hE]; omega), ← hE]
  exact (vN_of hp h).2
