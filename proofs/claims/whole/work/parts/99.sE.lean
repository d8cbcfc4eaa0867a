theorem la_0 {T : Nat → Int32} {s b e : Nat} : laC T s b e (nI 0) = -1 ∨ ∃ l, l < 5 ∧ laC T s b e (nI 0) = nI l := by
  show olC T s b e = -1 ∨ ∃ l, l < 5 ∧ olC T s b e = nI l
  unfold olC
  by_cases c0 : iwV T s b e 0 = 0
  · rw [if_pos c0]
    by_cases c1 : iwV T s b e 1 = 0
    · rw [if_pos c1]
      by_cases c2 : iwV T s b e 2 = 0
      · rw [if_pos c2]
        by_cases c3 : iwV T s b e 3 = 0
        · rw [if_pos c3]
          by_cases c4 : iwV T s b e 4 = 0
          · rw [if_pos c4]; exact Or.inl rfl
          · rw [if_neg c4]; exact Or.inr ⟨4, by decide, rfl⟩
        · rw [if_neg c3]; exact Or.inr ⟨3, by decide, rfl⟩
      · rw [if_neg c2]; exact Or.inr ⟨2, by decide, rfl⟩
    · rw [if_neg c1]; exact Or.inr ⟨1, by decide, rfl⟩
  · rw [if_neg c0]; exact Or.inr ⟨0, by decide, rfl⟩
theorem la_1 {T : Nat → Int32} {s b e : Nat} : laC T s b e (nI 1) = -1 ∨ ∃ l, 5 ≤ l ∧ l < 9 ∧ laC T s b e (nI 1) = nI l := by
  show wlC T s b e = -1 ∨ ∃ l, 5 ≤ l ∧ l < 9 ∧ wlC T s b e = nI l
  unfold wlC
  by_cases c0 : iwV T s b e 5 = 0
  · rw [if_pos c0]
    by_cases c1 : iwV T s b e 6 = 0
    · rw [if_pos c1]
      by_cases c2 : iwV T s b e 7 = 0
      · rw [if_pos c2]
        by_cases c3 : iwV T s b e 8 = 0
        · rw [if_pos c3]; exact Or.inl rfl
        · rw [if_neg c3]; exact Or.inr ⟨8, by decide, by decide, rfl⟩
      · rw [if_neg c2]; exact Or.inr ⟨7, by decide, by decide, rfl⟩
    · rw [if_neg c1]; exact Or.inr ⟨6, by decide, by decide, rfl⟩
  · rw [if_neg c0]; exact Or.inr ⟨5, by decide, by decide, rfl⟩
theorem la_2 {T : Nat → Int32} {s b e : Nat} : laC T s b e (nI 2) = -1 ∨ laC T s b e (nI 2) = nI 9 := by
  show glC T s b e = -1 ∨ glC T s b e = nI 9
  unfold glC
  by_cases c0 : iwV T s b e 1 = 0
  · rw [if_pos c0]; exact Or.inl rfl
  · rw [if_neg c0]; exact Or.inr rfl
/-- what readLine leaves -/
def rlQ (I : mI) (J : mJ) (R : mR) (len of p : Nat) (st : TS) (v : Option Value) (I2 : mI) (J2 : mJ) (R2 : mR) : Prop :=
  J2 = J ∧ R2 = R ∧ ((v = some (.int 0) ∧ ∃ q, ((lA (I 2) len of p = -1 ∧ q = p) ∨ (¬ lA (I 2) len of p = -1 ∧ ¬ (msA (I 2) len of p).1 = true ∧ q = (msA (I 2) len of p).2)) ∧ ∃ F' K' N' P', F' 8 = nI (tkB (I 2) len q) ∧ I2 = rM I F' K' N' P')
   ∨ (v = some (.int 1) ∧ ¬ lA (I 2) len of p = -1 ∧ (msA (I 2) len of p).1 = true ∧ ∃ A F' K' N' P', (∀ a, a < 41 ∨ 56 < a → A a = I a) ∧ F' 6 = nI len ∧ F' 9 = nI (tkE (I 2) len (msA (I 2) len of p).2) ∧ CR of (stA (I 2) len (lA (I 2) len of p).toNatClampNeg (tkB (I 2) len p) (tkE (I 2) len p) st) A F' ∧ I2 = rM A F' K' N' P'))
theorem r_lineN {S : Nat × (Nat → Int32)} {d n : Nat} {I : mI} {J : mJ} {R : mR} (hn : 122 ≤ n) (hR : m_fin R) (hRt : R 40 5 = some 2) {F K N P : Nat → Int32} {len : Nat} (hlen : F 6 = nI len) (hl6 : len ≤ 600) {s b e : Nat} (h7 : F 7 = nI s) (h8 : F 8 = nI b) (h9 : F 9 = nI e) (hs : s ≤ 4) (hbe : b ≤ e) (hel : e ≤ len) {x : Int32} (hln : laC (I 2) s b e x = -1) {Q : Option Value → mI → mJ → mR → Prop} (hQ : Q (some (.int 0)) (m_row (m_row (m_row (m_row I 40 F) 57 K) 58 N) 59 P) J R) : AW S (d + 7) YReader_readLine n n Q 0 [(0, .ref 40), (1, .int x)] [] (m_row (m_row (m_row (m_row I 40 F) 57 K) 58 N) 59 P) J R n := by
  refine a_aload_n 0 dReader_readLine_0 rfl rfl ?_
  refine a_iload_n 1 dReader_readLine_1 rfl rfl ?_
  refine a_callV (Q' := m_res (some (.int (-1))) (m_row (m_row (m_row (m_row I 40 F) 57 K) 58 N) 59 P) J R) (as := [.int x]) (st := []) dReader_readLine_2 ml7_114 rfl (Nat.le_of_ble_eq_true rfl) ly_40 rfl rfl (by decide) (by omega) (Nat.le_of_ble_eq_true rfl) rfl (Nat.le_refl _) (Nat.le_refl _) (by have h := c_lineAtHand (S := S) (d := d) (n := n) (J := J) (R := R) (I := m_row (m_row (m_row I 57 K) 58 N) 59 P) (F := F) hn hR hRt h7 h8 h9 hs hbe (by omega) (x := x); rw [rM_c] at h; rw [show (m_row (m_row (m_row I 57 K) 58 N) 59 P) 2 = I 2 from rfl, hln] at h; exact h) (m_go ?_)
  show AW _ _ _ _ _ _ _ _ [.int (-1)] _ _ _ _
  refine a_istore_n (lv' := [(2, .int (-1)), (0, .ref 40), (1, .int x)]) dReader_readLine_5 rfl (by decide) rfl ?_
  refine a_iload_n 0 dReader_readLine_6 rfl rfl ?_
  refine a_iconst (v := -1) dReader_readLine_7 (by decide) ?_
  refine a_icmp_ne (tgt := 13) dReader_readLine_8 (by decide) (fun c => False.elim (c rfl)) (fun _ => ?_)
  refine a_iconstN (a := 0) dReader_readLine_11 (by decide) ?_
  exact a_zret dReader_readLine_12 rfl (by rfl) hQ
theorem c_readLine {S : Nat × (Nat → Int32)} {d n : Nat} {I : mI} {J : mJ} {R : mR} (hn : 122 ≤ n) (hR : m_fin R) (hRt : R 40 5 = some 2) {F K N P : Nat → Int32} {len : Nat} (hlen : F 6 = nI len) (hl6 : len ≤ 600) {p : Nat} (hp : p ≤ len) (h7 : F 7 = nI (tkS (I 2) len p)) (h8 : F 8 = nI (tkB (I 2) len p)) (h9 : F 9 = nI (tkE (I 2) len p)) {st : TS} {of : Nat} (hof : of < 3) (hC : CR of st I F) : AW S (d + 7) YReader_readLine n n (rlQ I J R len of p st) 0 [(0, .ref 40), (1, .int (nI of))] [] (m_row (m_row (m_row (m_row I 40 F) 57 K) 58 N) 59 P) J R n := by
  have hb := tkB_le (T := I 2) hp
  have he := tkE_le (T := I 2) hp
  have hN : lA (I 2) len of p = -1 → AW S (d + 7) YReader_readLine n n (rlQ I J R len of p st) 0 [(0, .ref 40), (1, .int (nI of))] [] (m_row (m_row (m_row (m_row I 40 F) 57 K) 58 N) 59 P) J R n := fun h => r_lineN hn hR hRt hlen hl6 h7 h8 h9 tkS_le he.1 he.2 h ⟨rfl, rfl, Or.inl ⟨rfl, p, Or.inl ⟨h, rfl⟩, F, K, N, P, h8, rfl⟩⟩
  have go : ∀ l : Nat, l < 10 → lA (I 2) len of p = nI l → (∀ {Q : Option Value → mI → mJ → mR → Prop} (_ : (ms (I 2) len (shA l) (tkE (I 2) len p)).1 = false → ∀ F' K' N' P', F' 8 = nI (tkB (I 2) len (ms (I 2) len (shA l) (tkE (I 2) len p)).2) → Q (some (.int 0)) (rM I F' K' N' P') J R) (_ : (ms (I 2) len (shA l) (tkE (I 2) len p)).1 = true → ∀ A F' K' N' P', (∀ a, a < 41 ∨ 56 < a → A a = I a) → F' 6 = nI len → F' 9 = nI (tkE (I 2) len (ms (I 2) len (shA l) (tkE (I 2) len p)).2) → CR of (stA (I 2) len l (tkB (I 2) len p) (tkE (I 2) len p) st) A F' → Q (some (.int 1)) (rM A F' K' N' P') J R), AW S (d + 7) YReader_readLine n n Q 0 [(0, .ref 40), (1, .int (nI of))] [] (m_row (m_row (m_row (m_row I 40 F) 57 K) 58 N) 59 P) J R n) → AW S (d + 7) YReader_readLine n n (rlQ I J R len of p st) 0 [(0, .ref 40), (1, .int (nI of))] [] (m_row (m_row (m_row (m_row I 40 F) 57 K) 58 N) 59 P) J R n := fun l hl e k => by
    have ec : (lA (I 2) len of p).toNatClampNeg = l := by rw [e]; exact nI_clamp (by omega)
    have en : ¬ lA (I 2) len of p = -1 := by rw [e]; exact nI_m1 (by omega)
    refine k (fun h F' K' N' P' h8' => ?_) (fun h A F' K' N' P' hA h6' h9' hC' => ?_)
    · refine ⟨rfl, rfl, Or.inl ⟨rfl, (msA (I 2) len of p).2, Or.inr ⟨en, ?_, rfl⟩, F', K', N', P', ?_, rfl⟩⟩
      · unfold msA; rw [ec, h]; decide
      · unfold msA; rw [ec]; exact h8'
    · refine ⟨rfl, rfl, Or.inr ⟨rfl, en, ?_, A, F', K', N', P', hA, h6', ?_, ?_, rfl⟩⟩
      · unfold msA; rw [ec]; exact h
      · unfold msA; rw [ec]; exact h9'
      · rw [ec]; exact hC'
  rcases (show of = 0 ∨ of = 1 ∨ of = 2 by omega) with h | h | h
  · subst h
    rcases la_0 (T := I 2) (s := tkS (I 2) len p) (b := tkB (I 2) len p) (e := tkE (I 2) len p) with c | ⟨l, hl, c⟩
    · exact hN c
    · rcases (show l = 0 ∨ l = 1 ∨ l = 2 ∨ l = 3 ∨ l = 4 by omega) with h | h | h | h | h
      · subst h; exact go 0 (by decide) c (fun a b => c_line0 hn hR hRt hlen hl6 hp h7 h8 h9 hC c a b)
      · subst h; exact go 1 (by decide) c (fun a b => c_line1 hn hR hRt hlen hl6 hp h7 h8 h9 hC c a b)
      · subst h; exact go 2 (by decide) c (fun a b => c_line2 hn hR hRt hlen hl6 hp h7 h8 h9 hC c a b)
      · subst h; exact go 3 (by decide) c (fun a b => c_line3 hn hR hRt hlen hl6 hp h7 h8 h9 hC c a b)
      · subst h; exact go 4 (by decide) c (fun a b => c_line4 hn hR hRt hlen hl6 hp h7 h8 h9 hC c a b)
  · subst h
    rcases la_1 (T := I 2) (s := tkS (I 2) len p) (b := tkB (I 2) len p) (e := tkE (I 2) len p) with c | ⟨l, hl0, hl, c⟩
    · exact hN c
    · rcases (show l = 5 ∨ l = 6 ∨ l = 7 ∨ l = 8 by omega) with h | h | h | h
      · subst h; exact go 5 (by decide) c (fun a b => c_line5 hn hR hRt hlen hl6 hp h7 h8 h9 hC c a b)
      · subst h; exact go 6 (by decide) c (fun a b => c_line6 hn hR hRt hlen hl6 hp h7 h8 h9 hC c a b)
      · subst h; exact go 7 (by decide) c (fun a b => c_line7 hn hR hRt hlen hl6 hp h7 h8 h9 hC c a b)
      · subst h; exact go 8 (by decide) c (fun a b => c_line8 hn hR hRt hlen hl6 hp h7 h8 h9 hC c a b)
  · subst h
    rcases la_2 (T := I 2) (s := tkS (I 2) len p) (b := tkB (I 2) len p) (e := tkE (I 2) len p) with c | c
    · exact hN c
    · exact go 9 (by decide) c (fun a b => c_line9 hn hR hRt hlen hl6 hp h7 h8 h9 hC c a b)
