theorem sz_cg {f g : Nat → Nat} : ∀ n, (∀ k, k < n → f k = g k) → smZ f n = smZ g n := by
  intro n
  induction n with
  | zero => intro _; rfl
  | succ n ih => intro h; show smZ f n + f n = smZ g n + g n; rw [ih (fun k hk => h k (by omega)), h n (by omega)]
theorem sz_0 : ∀ n, smZ (fun _ => 0) n = 0 := by
  intro n
  induction n with
  | zero => rfl
  | succ n ih => show smZ (fun _ => 0) n + 0 = 0; rw [ih]
theorem sz_add {f g : Nat → Nat} : ∀ n, smZ (fun k => f k + g k) n = smZ f n + smZ g n := by
  intro n
  induction n with
  | zero => rfl
  | succ n ih => show smZ (fun k => f k + g k) n + (f n + g n) = (smZ f n + f n) + (smZ g n + g n); rw [ih]; omega
theorem sz_swap {f : Nat → Nat → Nat} {m : Nat} : ∀ n, smZ (fun a => smZ (fun b => f a b) m) n = smZ (fun b => smZ (fun a => f a b) n) m := by
  intro n
  induction n with
  | zero => exact (sz_0 m).symm
  | succ n ih =>
    show smZ (fun a => smZ (fun b => f a b) m) n + smZ (fun b => f n b) m = smZ (fun b => smZ (fun a => f a b) n + f n b) m
    rw [sz_add, ih]
theorem sz_two {g : Nat → Nat} : ∀ n, smZ g (2 * n) = smZ (fun k => g (2 * k)) n + smZ (fun k => g (2 * k + 1)) n := by
  intro n
  induction n with
  | zero => rfl
  | succ n ih =>
    rw [show 2 * (n + 1) = 2 * n + 1 + 1 by omega]
    show smZ g (2 * n) + g (2 * n) + g (2 * n + 1) = (smZ (fun k => g (2 * k)) n + g (2 * n)) + (smZ (fun k => g (2 * k + 1)) n + g (2 * n + 1))
    rw [ih]; omega
theorem sz_app {g : Nat → Nat} {a : Nat} : ∀ b, smZ g (a + b) = smZ g a + smZ (fun k => g (a + k)) b := by
  intro b
  induction b with
  | zero => rfl
  | succ b ih => show smZ g (a + b) + g (a + b) = smZ g a + (smZ (fun k => g (a + k)) b + g (a + b)); rw [ih]; omega
theorem sz_mul {g : Nat → Nat} {h : Nat} : ∀ n, smZ g (n * h) = smZ (fun w => smZ (fun b => g (w * h + b)) h) n := by
  intro n
  induction n with
  | zero => rw [Nat.zero_mul]; rfl
  | succ n ih => rw [Nat.succ_mul, sz_app, ih]; rfl
/-- ones among the low bits -/
def pcW : Nat → Nat → Nat
  | 0, _ => 0
  | f + 1, k => k % 2 + pcW f (k / 2)
theorem pc_le : ∀ f k, pcW f k ≤ f := by
  intro f
  induction f with
  | zero => intro k; exact Nat.le_refl _
  | succ f ih => intro k; show k % 2 + pcW f (k / 2) ≤ f + 1; have := ih (k / 2); omega
def gGr {σ : Type} (step : Nat → Nat → σ → σ) (hm : Nat → Nat) (nh : Nat) (leaf : σ → Nat) : Nat → Nat → Nat → σ → Nat
  | 0, _, _, st => leaf st
  | f + 1, l, m, st => (if m < f + 1 then gGr step hm nh leaf f (l + 1) m (step l (hm l) st) else 0) + (if m = 0 then 0 else smZ (fun h => gGr step hm nh leaf f (l + 1) (m - 1) (step l h st)) nh)
def gPh {σ : Type} (step : Nat → Nat → σ → σ) (hm : Nat → Nat) (nh : Nat) (leaf : σ → Nat) : Nat → Nat → Nat → Nat → σ → Nat
  | 0, _, _, _, st => leaf st
  | f + 1, l, k, w, st => if k % 2 = 0 then gPh step hm nh leaf f (l + 1) (k / 2) w (step l (hm l) st) else gPh step hm nh leaf f (l + 1) (k / 2) (w / nh) (step l (w % nh) st)
theorem gG_T {σ : Type} (step : Nat → Nat → σ → σ) (hm : Nat → Nat) (nh : Nat) (leaf : σ → Nat) (h1 : 0 < nh) : ∀ f l m st, m ≤ f → gGr step hm nh leaf f l m st = smZ (fun k => if pcW f k = m then smZ (fun w => gPh step hm nh leaf f l k w st) (nh ^ m) else 0) (2 ^ f) := by
  intro f
  induction f with
  | zero =>
    intro l m st hmf
    rw [show m = 0 by omega]
    show leaf st = 0 + (if (0 : Nat) = 0 then 0 + leaf st else 0)
    rw [if_pos rfl, Nat.zero_add, Nat.zero_add]
  | succ f ih =>
    intro l m st hmf
    rw [show 2 ^ (f + 1) = 2 * 2 ^ f by rw [Nat.pow_succ, Nat.mul_comm], sz_two]
    have eA : smZ (fun k => if pcW (f + 1) (2 * k) = m then smZ (fun w => gPh step hm nh leaf (f + 1) l (2 * k) w st) (nh ^ m) else 0) (2 ^ f) = if m < f + 1 then gGr step hm nh leaf f (l + 1) m (step l (hm l) st) else 0 := by
      have e1 : ∀ k, (if pcW (f + 1) (2 * k) = m then smZ (fun w => gPh step hm nh leaf (f + 1) l (2 * k) w st) (nh ^ m) else 0) = (if pcW f k = m then smZ (fun w => gPh step hm nh leaf f (l + 1) k w (step l (hm l) st)) (nh ^ m) else 0) := by
        intro k
        have e2 : pcW (f + 1) (2 * k) = pcW f k := by show (2 * k) % 2 + pcW f (2 * k / 2) = _; rw [show 2 * k % 2 = 0 by omega, show 2 * k / 2 = k by omega, Nat.zero_add]
        have e3 : ∀ w, gPh step hm nh leaf (f + 1) l (2 * k) w st = gPh step hm nh leaf f (l + 1) k w (step l (hm l) st) := by
          intro w
          show (if 2 * k % 2 = 0 then gPh step hm nh leaf f (l + 1) (2 * k / 2) w (step l (hm l) st) else _) = _
          rw [if_pos (by omega), show 2 * k / 2 = k by omega]
        rw [e2, sz_cg (nh ^ m) (fun w _ => e3 w)]
      rw [sz_cg (2 ^ f) (fun k _ => e1 k)]
      by_cases c : m < f + 1
      · rw [if_pos c, ih (l + 1) m _ (by omega)]
      · rw [if_neg c, sz_cg (g := fun _ => 0) (2 ^ f) (fun k _ => if_neg (by have := pc_le f k; omega)), sz_0]
    have eB : smZ (fun k => if pcW (f + 1) (2 * k + 1) = m then smZ (fun w => gPh step hm nh leaf (f + 1) l (2 * k + 1) w st) (nh ^ m) else 0) (2 ^ f) = if m = 0 then 0 else smZ (fun h => gGr step hm nh leaf f (l + 1) (m - 1) (step l h st)) nh := by
      have e2 : ∀ k, pcW (f + 1) (2 * k + 1) = 1 + pcW f k := by intro k; show (2 * k + 1) % 2 + pcW f ((2 * k + 1) / 2) = _; rw [show (2 * k + 1) % 2 = 1 by omega, show (2 * k + 1) / 2 = k by omega]
      by_cases c : m = 0
      · rw [if_pos c, sz_cg (g := fun _ => 0) (2 ^ f) (fun k _ => if_neg (by rw [e2]; omega)), sz_0]
      · rw [if_neg c]
        obtain ⟨m', rfl⟩ : ∃ m', m = m' + 1 := ⟨m - 1, by omega⟩
        have e1 : ∀ k, (if pcW (f + 1) (2 * k + 1) = m' + 1 then smZ (fun w => gPh step hm nh leaf (f + 1) l (2 * k + 1) w st) (nh ^ (m' + 1)) else 0) = smZ (fun h => if pcW f k = m' then smZ (fun w => gPh step hm nh leaf f (l + 1) k w (step l h st)) (nh ^ m') else 0) nh := by
          intro k
          rw [e2]
          by_cases d : pcW f k = m'
          · rw [if_pos (by omega), Nat.pow_succ, sz_mul, sz_swap]
            refine sz_cg nh (fun h hh => ?_)
            rw [if_pos d]
            refine sz_cg _ (fun w _ => ?_)
            show (if (2 * k + 1) % 2 = 0 then _ else gPh step hm nh leaf f (l + 1) ((2 * k + 1) / 2) ((w * nh + h) / nh) (step l ((w * nh + h) % nh) st)) = _
            rw [if_neg (by omega), show (2 * k + 1) / 2 = k by omega, Nat.mul_comm w nh, Nat.mul_add_div h1, Nat.div_eq_of_lt hh, Nat.add_zero, Nat.mul_add_mod, Nat.mod_eq_of_lt hh]
            rfl
          · rw [if_neg (by omega), sz_cg (g := fun _ => 0) nh (fun h _ => if_neg d), sz_0]
        rw [sz_cg (2 ^ f) (fun k _ => e1 k), sz_swap]
        refine sz_cg nh (fun h _ => ?_)
        rw [ih (l + 1) (m' + 1 - 1) _ (by omega)]; rfl
    rw [eA, eB]; rfl
theorem gPh_1 {σ : Type} (step : Nat → Nat → σ → σ) (hm : Nat → Nat) (nh : Nat) : ∀ f l k w (st : σ), gPh step hm nh (fun _ => 1) f l k w st = 1 := by
  intro f
  induction f with
  | zero => intro l k w st; rfl
  | succ f ih =>
    intro l k w st
    show (if k % 2 = 0 then _ else _) = _
    split
    · exact ih _ _ _ _
    · exact ih _ _ _ _
theorem wsm_f {k : Nat} : ∀ n, wsm (fun _ => 1) (fun i => k.testBit i) (n + 1) = k % 2 + wsm (fun _ => 1) (fun i => (k / 2).testBit i) n := by
  intro n
  induction n with
  | zero =>
    show 0 + (if k.testBit 0 = true then 1 else 0) = k % 2 + 0
    rw [Nat.testBit_zero]
    by_cases c : k % 2 = 1
    · rw [if_pos (decide_eq_true c), c]
    · rw [if_neg (by rw [decide_eq_false c]; decide)]; omega
  | succ n ih =>
    show wsm (fun _ => 1) (fun i => k.testBit i) (n + 1) + (if k.testBit (n + 1) = true then 1 else 0) = k % 2 + (wsm (fun _ => 1) (fun i => (k / 2).testBit i) n + (if (k / 2).testBit n = true then 1 else 0))
    rw [ih, Nat.testBit_succ]; omega
theorem pc_w : ∀ f k, pcW f k = wsm (fun _ => 1) (fun i => k.testBit i) f := by
  intro f
  induction f with
  | zero => intro k; rfl
  | succ f ih => intro k; rw [wsm_f, ← ih]; rfl
theorem pc_ones {k nl : Nat} (hk : k < 2 ^ nl) (hn : nl ≤ 10) : onesN (nI k) 10 = pcW nl k := by rw [pc_w, wsm_1 nl (by omega), ones_top hk hn]
abbrev gst : Type := (Nat → Int32) × (Nat → Int32)
def gSt (ds : Nat → Int32 → Int32) (kd : Nat → Int32) (l h : Nat) (st : gst) : gst := (brC ds l h st.1 st.2, brL kd l h st.2)
def gLf (nh : Nat) (st : gst) : Nat := if ∀ h, h < nh → 0 ≤ st.1 h then 1 else 0
theorem sm2_1 {g : Nat → Nat × Nat} : ∀ n, (sm2 g n).1 = smZ (fun h => (g h).1) n ∧ (sm2 g n).2 = smZ (fun h => (g h).2) n := by
  intro n
  induction n with
  | zero => exact ⟨rfl, rfl⟩
  | succ n ih => exact ⟨by show (sm2 g n).1 + _ = smZ _ n + _; rw [ih.1], by show (sm2 g n).2 + _ = smZ _ n + _; rw [ih.2]⟩
theorem gs_G {ds : Nat → Int32 → Int32} {kd : Nat → Int32} {hm : Nat → Nat} {nh : Nat} : ∀ f l m (ch ls : Nat → Int32), (gsF ds kd hm nh f l m ch ls).1 = gGr (gSt ds kd) hm nh (gLf nh) f l m (ch, ls) ∧ (gsF ds kd hm nh f l m ch ls).2 = gGr (gSt ds kd) hm nh (fun _ => 1) f l m (ch, ls) := by
  intro f
  induction f with
  | zero => intro l m ch ls; exact ⟨rfl, rfl⟩
  | succ f ih =>
    intro l m ch ls
    have e1 : gsF ds kd hm nh (f + 1) l m ch ls = ((if m < f + 1 then gsF ds kd hm nh f (l + 1) m (brC ds l (hm l) ch ls) (brL kd l (hm l) ls) else (0, 0)).1 + (if m = 0 then (0, 0) else sm2 (fun h => gsF ds kd hm nh f (l + 1) (m - 1) (brC ds l h ch ls) (brL kd l h ls)) nh).1, (if m < f + 1 then gsF ds kd hm nh f (l + 1) m (brC ds l (hm l) ch ls) (brL kd l (hm l) ls) else (0, 0)).2 + (if m = 0 then (0, 0) else sm2 (fun h => gsF ds kd hm nh f (l + 1) (m - 1) (brC ds l h ch ls) (brL kd l h ls)) nh).2) := rfl
    have e2 : ∀ lf, gGr (gSt ds kd) hm nh lf (f + 1) l m (ch, ls) = (if m < f + 1 then gGr (gSt ds kd) hm nh lf f (l + 1) m (brC ds l (hm l) ch ls, brL kd l (hm l) ls) else 0) + (if m = 0 then 0 else smZ (fun h => gGr (gSt ds kd) hm nh lf f (l + 1) (m - 1) (brC ds l h ch ls, brL kd l h ls)) nh) := fun lf => rfl
    rw [e1, e2, e2]
    have i1 := ih (l + 1) m (brC ds l (hm l) ch ls) (brL kd l (hm l) ls)
    have i2 := sm2_1 (g := fun h => gsF ds kd hm nh f (l + 1) (m - 1) (brC ds l h ch ls) (brL kd l h ls)) nh
    have j1 : smZ (fun h => (gsF ds kd hm nh f (l + 1) (m - 1) (brC ds l h ch ls) (brL kd l h ls)).1) nh = smZ (fun h => gGr (gSt ds kd) hm nh (gLf nh) f (l + 1) (m - 1) (brC ds l h ch ls, brL kd l h ls)) nh := sz_cg nh (fun h _ => (ih (l + 1) (m - 1) _ _).1)
    have j2 : smZ (fun h => (gsF ds kd hm nh f (l + 1) (m - 1) (brC ds l h ch ls) (brL kd l h ls)).2) nh = smZ (fun h => gGr (gSt ds kd) hm nh (fun _ => 1) f (l + 1) (m - 1) (brC ds l h ch ls, brL kd l h ls)) nh := sz_cg nh (fun h _ => (ih (l + 1) (m - 1) _ _).2)
    by_cases c1 : m < f + 1
    · rw [if_pos c1, if_pos c1, if_pos c1]
      by_cases c2 : m = 0
      · rw [if_pos c2, if_pos c2, if_pos c2]; exact ⟨by show _ + 0 = _ + 0; rw [i1.1], by show _ + 0 = _ + 0; rw [i1.2]⟩
      · rw [if_neg c2, if_neg c2, if_neg c2]; exact ⟨by show _ + _ = _ + _; rw [i1.1, i2.1, j1], by show _ + _ = _ + _; rw [i1.2, i2.2, j2]⟩
    · rw [if_neg c1, if_neg c1, if_neg c1]
      by_cases c2 : m = 0
      · rw [if_pos c2, if_pos c2, if_pos c2]; exact ⟨rfl, rfl⟩
      · rw [if_neg c2, if_neg c2, if_neg c2]; exact ⟨by show 0 + _ = 0 + _; rw [i2.1, j1], by show 0 + _ = 0 + _; rw [i2.2, j2]⟩
/-- where the letters go: strays by the digits of a way -/
theorem fbA_s {X : mI} {nh k w : Nat} {f : Nat → Int32} {m : Nat} (hm : m < 10) : fbA X nh (nI k) (w, f) (m + 1) = if k.testBit m = true then ((fbA X nh (nI k) (w, f) m).1 / nh, va_up (fbA X nh (nI k) (w, f) m).2 m (nI ((fbA X nh (nI k) (w, f) m).1 % nh))) else ((fbA X nh (nI k) (w, f) m).1, va_up (fbA X nh (nI k) (w, f) m).2 m (X 106 m)) := by
  show fbAS X nh (nI k) m (fbA X nh (nI k) (w, f) m) = _
  unfold fbAS
  by_cases c : k.testBit m = true
  · have h : ¬ f_has (nI k) (nI m) = 0 := fun q => by rw [(has_nI (by omega)).mp q] at c; exact absurd c (by decide)
    rw [if_neg h, if_neg h, if_pos c]
  · have h : f_has (nI k) (nI m) = 0 := (has_nI (by omega)).mpr (Bool.eq_false_iff.mpr c)
    rw [if_pos h, if_pos h, if_neg c]
theorem fbA_r {X : mI} {nh k w : Nat} {f : Nat → Int32} {l : Nat} : ∀ m, m ≤ 10 → l < m → (fbA X nh (nI k) (w, f) m).2 l = if k.testBit l = true then nI ((fbA X nh (nI k) (w, f) l).1 % nh) else X 106 l := by
  intro m
  induction m with
  | zero => intro _ h; exact absurd h (Nat.not_lt_zero _)
  | succ m ih =>
    intro hm hl
    rw [fbA_s (by omega)]
    by_cases e : l = m
    · rw [e]
      by_cases c : k.testBit m = true
      · rw [if_pos c, if_pos c]; exact vup_eq
      · rw [if_neg c, if_neg c]; exact vup_eq
    · have i := ih (by omega) (by omega)
      by_cases c : k.testBit m = true
      · rw [if_pos c]; show va_up _ m _ l = _; rw [vup_ne e]; exact i
      · rw [if_neg c]; show va_up _ m _ l = _; rw [vup_ne e]; exact i
theorem dv2 {k l : Nat} : k / 2 ^ l / 2 = k / 2 ^ (l + 1) ∧ (k / 2 ^ l % 2 = 0 ↔ ¬ k.testBit l = true) := by
  refine ⟨by rw [Nat.div_div_eq_div_mul, Nat.pow_succ], ?_⟩
  rw [Nat.testBit_eq_decide_div_mod_eq, decide_eq_true_iff]
  omega

