def suC (f : Nat) (cd : Nat → Nat) (e : Nat → Nat) : Int32 := if f = 0 then -1 else if ∀ k, k < f → (¬ cd k = 99 ∧ e (cd k) = e (cd 0)) then nI (e (cd 0)) else -1
theorem l_sreLetter {S : Nat × (Nat → Int32)} {d n : Nat} {I : mI} {J : mJ} {R : mR} (hn : 122 ≤ n) (hR : m_fin R) {f nh : Nat} {cd : Nat → Nat} (hfd : I 85 0 = nI f) (hf61 : f ≤ 61) (hhs : I 85 4 = nI nh) (hnh : nh ≤ 6) (hcd : ∀ i, i < f → I 86 i = nI (cd i) ∧ cd i < 100)  {Q : Option Value → mI → mJ → mR → Prop} (h0 : ∀ k, k < f → ¬ ((¬ cd k = 99 ∧ cd k % 10 = cd 0 % 10)) → Q (some (.int (-1))) I J R) (hx : (∀ k, k < f → (¬ cd k = 99 ∧ cd k % 10 = cd 0 % 10)) → AW S d YSlips_sureLetter n n Q 59 [(1, .int (nI f)), (0, .ref 85)] [] I J R n) : ∀ m k, k + m = f → (∀ j, j < k → (¬ cd j = 99 ∧ cd j % 10 = cd 0 % 10)) → AW S d YSlips_sureLetter n n Q 11 [(1, .int (nI k)), (0, .ref 85)] [] I J R n := by
  intro m
  induction m with
  | zero =>
    intro k hk9 hp
    rw [show k = f by omega] at hp ⊢
    refine a_iload_n 0 dSlips_sureLetter_11 rfl rfl ?_
    refine a_aload_n 1 dSlips_sureLetter_12 rfl rfl ?_
    refine a_geti dSlips_sureLetter_13 fl8_25 rfl ly_85 (by omega) ?_
    rw [show I 85 0 = (nI f) from hfd]
    refine a_icmp_geN (tgt := 59) dSlips_sureLetter_16 (by decide) (by omega) (by omega) (fun _ => ?_) (fun c => False.elim (by omega))
    exact hx hp
  | succ m ih =>
    intro k hk9 hp
    have hd1 := (hcd k (by omega)).2
    have hd0 := (hcd 0 (by omega)).2
    refine a_iload_n 0 dSlips_sureLetter_11 rfl rfl ?_
    refine a_aload_n 1 dSlips_sureLetter_12 rfl rfl ?_
    refine a_geti dSlips_sureLetter_13 fl8_25 rfl ly_85 (by omega) ?_
    rw [show I 85 0 = (nI f) from hfd]
    refine a_icmp_geN (tgt := 59) dSlips_sureLetter_16 (by decide) (by omega) (by omega) (fun c => False.elim (by omega)) (fun _ => ?_)
    refine a_aload_n 1 dSlips_sureLetter_19 rfl rfl ?_
    refine a_geta (r := 86) dSlips_sureLetter_20 fl8_11 rfl ly_85 (by omega) (rf_85_1 hR) ?_
    refine a_iload_n 0 dSlips_sureLetter_23 rfl rfl ?_
    refine a_ialdN (a := k) dSlips_sureLetter_24 ly_86 (by omega) (by omega) (by decide) ?_
    rw [show I 86 k = I 86 k from rfl]
    rw [show (I 86 k) = (nI (cd k)) from (hcd k (by omega)).1]
    refine a_bipushN (a := 99) dSlips_sureLetter_25 (by decide) ?_
    refine a_icmp_eqN (tgt := 51) dSlips_sureLetter_27 (by decide) (by omega) (by omega) (fun c27 => ?_) (fun c27 => ?_)
    · refine a_iconst (v := -1) dSlips_sureLetter_51 (by decide) ?_
      exact a_iret dSlips_sureLetter_52 rfl (h0 k (by omega) (fun q => by omega))
    · refine a_aload_n 1 dSlips_sureLetter_30 rfl rfl ?_
      refine a_geta (r := 86) dSlips_sureLetter_31 fl8_11 rfl ly_85 (by omega) (rf_85_1 hR) ?_
      refine a_iload_n 0 dSlips_sureLetter_34 rfl rfl ?_
      refine a_ialdN (a := k) dSlips_sureLetter_35 ly_86 (by omega) (by omega) (by decide) ?_
      rw [show I 86 k = I 86 k from rfl]
      rw [show (I 86 k) = (nI (cd k)) from (hcd k (by omega)).1]
      refine a_bipushN (a := 10) dSlips_sureLetter_36 (by decide) ?_
      refine a_iremN dSlips_sureLetter_38 (by omega) (by omega) (by omega) ?_
      refine a_aload_n 1 dSlips_sureLetter_39 rfl rfl ?_
      refine a_geta (r := 86) dSlips_sureLetter_40 fl8_11 rfl ly_85 (by omega) (rf_85_1 hR) ?_
      refine a_iconstN (a := 0) dSlips_sureLetter_43 (by decide) ?_
      refine a_ialdN (a := 0) dSlips_sureLetter_44 ly_86 (by omega) (by omega) (by decide) ?_
      rw [show I 86 0 = I 86 0 from rfl]
      rw [show (I 86 0) = (nI (cd 0)) from (hcd 0 (by omega)).1]
      refine a_bipushN (a := 10) dSlips_sureLetter_45 (by decide) ?_
      refine a_iremN dSlips_sureLetter_47 (by omega) (by omega) (by omega) ?_
      refine a_icmp_eqN (tgt := 53) dSlips_sureLetter_48 (by decide) (by omega) (by omega) (fun c48 => ?_) (fun c48 => ?_)
      · refine a_iincN (lv' := [(1, .int (nI (k + 1))), (0, .ref 85)]) (j := 0) dSlips_sureLetter_53 rfl (by decide) rfl ?_
        refine a_goto (tgt := 11) dSlips_sureLetter_56 (by decide) ?_
        exact ih (k + 1) (by omega) (fun j hj => by
          rcases Nat.lt_or_eq_of_le (Nat.le_of_lt_succ hj) with h1 | h1
          · exact hp j h1
          · subst h1; exact ⟨by omega, by omega⟩)
      · refine a_iconst (v := -1) dSlips_sureLetter_51 (by decide) ?_
        exact a_iret dSlips_sureLetter_52 rfl (h0 k (by omega) (fun q => by omega))
theorem c_Slips_sureLetter {S : Nat × (Nat → Int32)} {d n : Nat} {I : mI} {J : mJ} {R : mR} (hn : 122 ≤ n) (hR : m_fin R) {f nh : Nat} {cd : Nat → Nat} (hfd : I 85 0 = nI f) (hf61 : f ≤ 61) (hhs : I 85 4 = nI nh) (hnh : nh ≤ 6) (hcd : ∀ i, i < f → I 86 i = nI (cd i) ∧ cd i < 100)  : RUN S d YSlips_sureLetter [.ref 85] I J R n (some (.int (suC f cd (fun q => q % 10)))) I J R n := by
  show AW S _ YSlips_sureLetter n n _ 0 [(0, .ref 85)] [] I J R n
  refine a_aload_n 0 dSlips_sureLetter_0 rfl rfl ?_
  refine a_geti dSlips_sureLetter_1 fl8_25 rfl ly_85 (by omega) ?_
  rw [show I 85 0 = (nI f) from hfd]
  by_cases hz : f = 0
  · refine a_if_ne (tgt := 9) dSlips_sureLetter_4 (by decide) (fun c => False.elim (c (by rw [hz]; rfl))) (fun _ => ?_)
    refine a_iconst (v := -1) dSlips_sureLetter_7 (by decide) ?_
    exact a_iret dSlips_sureLetter_8 rfl ⟨by unfold suC; rw [if_pos hz], rfl, rfl, rfl⟩
  · have hd0 := (hcd 0 (by omega)).2
    refine a_if_ne (tgt := 9) dSlips_sureLetter_4 (by decide) (fun _ => ?_) (fun c => False.elim (nI_ne0 (by omega) (by omega) c))
    refine a_iconstN (a := 0) dSlips_sureLetter_9 (by decide) ?_
    refine a_istore_n (lv' := [(1, .int (nI 0)), (0, .ref 85)]) dSlips_sureLetter_10 rfl (by decide) rfl ?_
    refine a_locs (lv' := [(1, .int (nI 0)), (0, .ref 85)]) [0, 1] rfl ?_
    refine l_sreLetter hn hR hfd hf61 hhs hnh hcd (fun k hk2 hp => ?_) (fun hp => ?_) f 0 (by omega) (fun j hj => absurd hj (Nat.not_lt_zero _))
    · exact ⟨by unfold suC; rw [if_neg hz, if_neg (fun q => hp (q k hk2))], rfl, rfl, rfl⟩
    · refine a_aload_n 1 dSlips_sureLetter_59 rfl rfl ?_
      refine a_geta (r := 86) dSlips_sureLetter_60 fl8_11 rfl ly_85 (by omega) (rf_85_1 hR) ?_
      refine a_iconstN (a := 0) dSlips_sureLetter_63 (by decide) ?_
      refine a_ialdN (a := 0) dSlips_sureLetter_64 ly_86 (by omega) (by omega) (by decide) ?_
      rw [show I 86 0 = I 86 0 from rfl]
      rw [show (I 86 0) = (nI (cd 0)) from (hcd 0 (by omega)).1]
      refine a_bipushN (a := 10) dSlips_sureLetter_65 (by decide) ?_
      refine a_iremN dSlips_sureLetter_67 (by omega) (by omega) (by omega) ?_
      exact a_iret dSlips_sureLetter_68 rfl ⟨by unfold suC; rw [if_neg hz, if_pos hp], rfl, rfl, rfl⟩
theorem l_sreHouse {S : Nat × (Nat → Int32)} {d n : Nat} {I : mI} {J : mJ} {R : mR} (hn : 122 ≤ n) (hR : m_fin R) {f nh : Nat} {cd : Nat → Nat} (hfd : I 85 0 = nI f) (hf61 : f ≤ 61) (hhs : I 85 4 = nI nh) (hnh : nh ≤ 6) (hcd : ∀ i, i < f → I 86 i = nI (cd i) ∧ cd i < 100)  {Q : Option Value → mI → mJ → mR → Prop} (h0 : ∀ k, k < f → ¬ ((¬ cd k = 99 ∧ cd k / 10 = cd 0 / 10)) → Q (some (.int (-1))) I J R) (hx : (∀ k, k < f → (¬ cd k = 99 ∧ cd k / 10 = cd 0 / 10)) → AW S d YSlips_sureHouse n n Q 59 [(1, .int (nI f)), (0, .ref 85)] [] I J R n) : ∀ m k, k + m = f → (∀ j, j < k → (¬ cd j = 99 ∧ cd j / 10 = cd 0 / 10)) → AW S d YSlips_sureHouse n n Q 11 [(1, .int (nI k)), (0, .ref 85)] [] I J R n := by
  intro m
  induction m with
  | zero =>
    intro k hk9 hp
    rw [show k = f by omega] at hp ⊢
    refine a_iload_n 0 dSlips_sureHouse_11 rfl rfl ?_
    refine a_aload_n 1 dSlips_sureHouse_12 rfl rfl ?_
    refine a_geti dSlips_sureHouse_13 fl8_25 rfl ly_85 (by omega) ?_
    rw [show I 85 0 = (nI f) from hfd]
    refine a_icmp_geN (tgt := 59) dSlips_sureHouse_16 (by decide) (by omega) (by omega) (fun _ => ?_) (fun c => False.elim (by omega))
    exact hx hp
  | succ m ih =>
    intro k hk9 hp
    have hd1 := (hcd k (by omega)).2
    have hd0 := (hcd 0 (by omega)).2
    refine a_iload_n 0 dSlips_sureHouse_11 rfl rfl ?_
    refine a_aload_n 1 dSlips_sureHouse_12 rfl rfl ?_
    refine a_geti dSlips_sureHouse_13 fl8_25 rfl ly_85 (by omega) ?_
    rw [show I 85 0 = (nI f) from hfd]
    refine a_icmp_geN (tgt := 59) dSlips_sureHouse_16 (by decide) (by omega) (by omega) (fun c => False.elim (by omega)) (fun _ => ?_)
    refine a_aload_n 1 dSlips_sureHouse_19 rfl rfl ?_
    refine a_geta (r := 86) dSlips_sureHouse_20 fl8_11 rfl ly_85 (by omega) (rf_85_1 hR) ?_
    refine a_iload_n 0 dSlips_sureHouse_23 rfl rfl ?_
    refine a_ialdN (a := k) dSlips_sureHouse_24 ly_86 (by omega) (by omega) (by decide) ?_
    rw [show I 86 k = I 86 k from rfl]
    rw [show (I 86 k) = (nI (cd k)) from (hcd k (by omega)).1]
    refine a_bipushN (a := 99) dSlips_sureHouse_25 (by decide) ?_
    refine a_icmp_eqN (tgt := 51) dSlips_sureHouse_27 (by decide) (by omega) (by omega) (fun c27 => ?_) (fun c27 => ?_)
    · refine a_iconst (v := -1) dSlips_sureHouse_51 (by decide) ?_
      exact a_iret dSlips_sureHouse_52 rfl (h0 k (by omega) (fun q => by omega))
    · refine a_aload_n 1 dSlips_sureHouse_30 rfl rfl ?_
      refine a_geta (r := 86) dSlips_sureHouse_31 fl8_11 rfl ly_85 (by omega) (rf_85_1 hR) ?_
      refine a_iload_n 0 dSlips_sureHouse_34 rfl rfl ?_
      refine a_ialdN (a := k) dSlips_sureHouse_35 ly_86 (by omega) (by omega) (by decide) ?_
      rw [show I 86 k = I 86 k from rfl]
      rw [show (I 86 k) = (nI (cd k)) from (hcd k (by omega)).1]
      refine a_bipushN (a := 10) dSlips_sureHouse_36 (by decide) ?_
      refine a_idivN dSlips_sureHouse_38 (by omega) (by omega) (by omega) ?_
      refine a_aload_n 1 dSlips_sureHouse_39 rfl rfl ?_
      refine a_geta (r := 86) dSlips_sureHouse_40 fl8_11 rfl ly_85 (by omega) (rf_85_1 hR) ?_
      refine a_iconstN (a := 0) dSlips_sureHouse_43 (by decide) ?_
      refine a_ialdN (a := 0) dSlips_sureHouse_44 ly_86 (by omega) (by omega) (by decide) ?_
      rw [show I 86 0 = I 86 0 from rfl]
      rw [show (I 86 0) = (nI (cd 0)) from (hcd 0 (by omega)).1]
      refine a_bipushN (a := 10) dSlips_sureHouse_45 (by decide) ?_
      refine a_idivN dSlips_sureHouse_47 (by omega) (by omega) (by omega) ?_
      refine a_icmp_eqN (tgt := 53) dSlips_sureHouse_48 (by decide) (by omega) (by omega) (fun c48 => ?_) (fun c48 => ?_)
      · refine a_iincN (lv' := [(1, .int (nI (k + 1))), (0, .ref 85)]) (j := 0) dSlips_sureHouse_53 rfl (by decide) rfl ?_
        refine a_goto (tgt := 11) dSlips_sureHouse_56 (by decide) ?_
        exact ih (k + 1) (by omega) (fun j hj => by
          rcases Nat.lt_or_eq_of_le (Nat.le_of_lt_succ hj) with h1 | h1
          · exact hp j h1
          · subst h1; exact ⟨by omega, by omega⟩)
      · refine a_iconst (v := -1) dSlips_sureHouse_51 (by decide) ?_
        exact a_iret dSlips_sureHouse_52 rfl (h0 k (by omega) (fun q => by omega))
theorem c_Slips_sureHouse {S : Nat × (Nat → Int32)} {d n : Nat} {I : mI} {J : mJ} {R : mR} (hn : 122 ≤ n) (hR : m_fin R) {f nh : Nat} {cd : Nat → Nat} (hfd : I 85 0 = nI f) (hf61 : f ≤ 61) (hhs : I 85 4 = nI nh) (hnh : nh ≤ 6) (hcd : ∀ i, i < f → I 86 i = nI (cd i) ∧ cd i < 100)  : RUN S d YSlips_sureHouse [.ref 85] I J R n (some (.int (suC f cd (fun q => q / 10)))) I J R n := by
  show AW S _ YSlips_sureHouse n n _ 0 [(0, .ref 85)] [] I J R n
  refine a_aload_n 0 dSlips_sureHouse_0 rfl rfl ?_
  refine a_geti dSlips_sureHouse_1 fl8_25 rfl ly_85 (by omega) ?_
  rw [show I 85 0 = (nI f) from hfd]
  by_cases hz : f = 0
  · refine a_if_ne (tgt := 9) dSlips_sureHouse_4 (by decide) (fun c => False.elim (c (by rw [hz]; rfl))) (fun _ => ?_)
    refine a_iconst (v := -1) dSlips_sureHouse_7 (by decide) ?_
    exact a_iret dSlips_sureHouse_8 rfl ⟨by unfold suC; rw [if_pos hz], rfl, rfl, rfl⟩
  · have hd0 := (hcd 0 (by omega)).2
    refine a_if_ne (tgt := 9) dSlips_sureHouse_4 (by decide) (fun _ => ?_) (fun c => False.elim (nI_ne0 (by omega) (by omega) c))
    refine a_iconstN (a := 0) dSlips_sureHouse_9 (by decide) ?_
    refine a_istore_n (lv' := [(1, .int (nI 0)), (0, .ref 85)]) dSlips_sureHouse_10 rfl (by decide) rfl ?_
    refine a_locs (lv' := [(1, .int (nI 0)), (0, .ref 85)]) [0, 1] rfl ?_
    refine l_sreHouse hn hR hfd hf61 hhs hnh hcd (fun k hk2 hp => ?_) (fun hp => ?_) f 0 (by omega) (fun j hj => absurd hj (Nat.not_lt_zero _))
    · exact ⟨by unfold suC; rw [if_neg hz, if_neg (fun q => hp (q k hk2))], rfl, rfl, rfl⟩
    · refine a_aload_n 1 dSlips_sureHouse_59 rfl rfl ?_
      refine a_geta (r := 86) dSlips_sureHouse_60 fl8_11 rfl ly_85 (by omega) (rf_85_1 hR) ?_
      refine a_iconstN (a := 0) dSlips_sureHouse_63 (by decide) ?_
      refine a_ialdN (a := 0) dSlips_sureHouse_64 ly_86 (by omega) (by omega) (by decide) ?_
      rw [show I 86 0 = I 86 0 from rfl]
      rw [show (I 86 0) = (nI (cd 0)) from (hcd 0 (by omega)).1]
      refine a_bipushN (a := 10) dSlips_sureHouse_65 (by decide) ?_
      refine a_idivN dSlips_sureHouse_67 (by omega) (by omega) (by omega) ?_
      exact a_iret dSlips_sureHouse_68 rfl ⟨by unfold suC; rw [if_neg hz, if_pos hp], rfl, rfl, rfl⟩
theorem c_Slips_moodOf {S : Nat × (Nat → Int32)} {d n : Nat} {I : mI} {J : mJ} {R : mR} (hn : 122 ≤ n) (hR : m_fin R) {a h : Nat} (ha : a < 61) (hh6 : h < 6)  : RUN S d YSlips_moodOf [.ref 85, .int (nI a), .int (nI h)] I J R n (some (.int (I 87 (6 * a + h)))) I J R n := by
  show AW S _ YSlips_moodOf n n _ 0 [(0, .ref 85), (1, .int (nI a)), (2, .int (nI h))] [] I J R n
  refine a_aload_n 0 dSlips_moodOf_0 rfl rfl ?_
  refine a_geta (r := 87) dSlips_moodOf_1 fl8_15 rfl ly_85 (by omega) (rf_85_2 hR) ?_
  refine a_bipushN (a := 6) dSlips_moodOf_4 (by decide) ?_
  refine a_iload_n 1 dSlips_moodOf_6 rfl rfl ?_
  refine a_imulN (a := 6) (b := a) dSlips_moodOf_7 ?_
  refine a_iload_n 2 dSlips_moodOf_8 rfl rfl ?_
  refine a_iaddN (a := (6 * a)) (b := h) dSlips_moodOf_9 ?_
  refine a_ialdN (a := ((6 * a) + h)) dSlips_moodOf_10 ly_87 (by omega) (by omega) (by decide) ?_
  rw [show I 87 ((6 * a) + h) = I 87 ((6 * a) + h) from rfl]
  exact a_iret dSlips_moodOf_11 rfl ⟨rfl, rfl, rfl, rfl⟩
def gaAS (I : mI) (h t : Nat) (k : Nat) (s : Nat) : Nat := (if (I 87 (6 * t + h)) = (I 87 (6 * k + h)) then (s + 1) else s)
def gaA (I : mI) (h t : Nat) (s0 : Nat) : Nat → Nat
  | 0 => s0
  | k + 1 => gaAS I h t k (gaA I h t s0 k)
theorem l_gaA {S : Nat × (Nat → Int32)} {d n : Nat} {I : mI} {J : mJ} {R : mR} (hn : 122 ≤ n) (hR : m_fin R) {f nh : Nat} {cd : Nat → Nat} (hfd : I 85 0 = nI f) (hf61 : f ≤ 61) (hhs : I 85 4 = nI nh) (hnh : nh ≤ 6) (hcd : ∀ i, i < f → I 86 i = nI (cd i) ∧ cd i < 100) {h t : Nat} (hh6 : h < 6) (ht : t < f) {mx : Int32}  {s0 : Nat} {Q : Option Value → mI → mJ → mR → Prop}  (hx : AW S (d + 1) YSlips_greatestAlike n n Q 52 [(5, .int (nI f)), (4, .int (nI (gaA I h t s0 f))), (0, .ref 85), (1, .int (nI h)), (2, .int mx), (3, .int (nI t))] [] I J R n) : ∀ m k, k + m = f → ∀ s : Nat, gaA I h t s0 k = s → AW S (d + 1) YSlips_greatestAlike n n Q 18 [(5, .int (nI k)), (4, .int (nI s)), (0, .ref 85), (1, .int (nI h)), (2, .int mx), (3, .int (nI t))] [] I J R n := by
  intro m
  induction m with
  | zero =>
    intro k hk9 s es
    rw [show k = f by omega] at es ⊢
    subst es
    refine a_iload 0 dSlips_greatestAlike_18 rfl ?_
    refine a_aload_n 2 dSlips_greatestAlike_20 rfl rfl ?_
    refine a_geti dSlips_greatestAlike_21 fl8_25 rfl ly_85 (by omega) ?_
    rw [show I 85 0 = (nI f) from hfd]
    refine a_icmp_geN (tgt := 52) dSlips_greatestAlike_24 (by decide) (by omega) (by omega) (fun _ => ?_) (fun c => False.elim (by omega))
    exact hx
  | succ m ih =>
    intro k hk9 s es
    refine a_iload 0 dSlips_greatestAlike_18 rfl ?_
    refine a_aload_n 2 dSlips_greatestAlike_20 rfl rfl ?_
    refine a_geti dSlips_greatestAlike_21 fl8_25 rfl ly_85 (by omega) ?_
    rw [show I 85 0 = (nI f) from hfd]
    refine a_icmp_geN (tgt := 52) dSlips_greatestAlike_24 (by decide) (by omega) (by omega) (fun c => False.elim (by omega)) (fun _ => ?_)
    refine a_aload_n 2 dSlips_greatestAlike_27 rfl rfl ?_
    refine a_iload_n 5 dSlips_greatestAlike_28 rfl rfl ?_
    refine a_iload_n 3 dSlips_greatestAlike_29 rfl rfl ?_
    refine a_callV (Q' := m_res (some (.int (I 87 (6 * t + h)))) I J R) (as := [.int (nI t), .int (nI h)]) (st := []) dSlips_greatestAlike_30 ml8_90 rfl (Nat.le_of_ble_eq_true rfl) ly_85 rfl rfl (by decide) (by omega) (Nat.le_of_ble_eq_true rfl) rfl (Nat.le_refl _) (Nat.le_refl _) (c_Slips_moodOf hn hR (by omega) (by omega)) (m_go ?_)
    show AW _ _ _ _ _ _ _ _ [.int (I 87 (6 * t + h))] _ _ _ _
    refine a_aload_n 2 dSlips_greatestAlike_33 rfl rfl ?_
    refine a_iload 0 dSlips_greatestAlike_34 rfl ?_
    refine a_iload_n 3 dSlips_greatestAlike_36 rfl rfl ?_
    refine a_callV (Q' := m_res (some (.int (I 87 (6 * k + h)))) I J R) (as := [.int (nI k), .int (nI h)]) (st := [.int (I 87 (6 * t + h))]) dSlips_greatestAlike_37 ml8_90 rfl (Nat.le_of_ble_eq_true rfl) ly_85 rfl rfl (by decide) (by omega) (Nat.le_of_ble_eq_true rfl) rfl (Nat.le_refl _) (Nat.le_refl _) (c_Slips_moodOf hn hR (by omega) (by omega)) (m_go ?_)
    show AW _ _ _ _ _ _ _ _ [.int (I 87 (6 * k + h)), .int (I 87 (6 * t + h))] _ _ _ _
    refine a_icmp_ne (tgt := 46) dSlips_greatestAlike_40 (by decide) (fun c40 => ?_) (fun c40 => ?_)
    · refine a_iincN (lv' := [(5, .int (nI (k + 1))), (4, .int (nI s)), (0, .ref 85), (1, .int (nI h)), (2, .int mx), (3, .int (nI t))]) (j := 0) dSlips_greatestAlike_46 rfl (by decide) rfl ?_
      refine a_goto (tgt := 18) dSlips_greatestAlike_49 (by decide) ?_
      have ez9 : gaA I h t s0 (k + 1) = s := by
        show gaAS I h t k (gaA I h t s0 k) = _
        rw [es]
        unfold gaAS
        rw [if_neg c40]
      exact ih (k + 1) (by omega) s ez9
    · refine a_iincN (lv' := [(4, .int (nI (s + 1))), (5, .int (nI k)), (0, .ref 85), (1, .int (nI h)), (2, .int mx), (3, .int (nI t))]) (j := 1) dSlips_greatestAlike_43 rfl (by decide) rfl ?_
      refine a_iincN (lv' := [(5, .int (nI (k + 1))), (4, .int (nI (s + 1))), (0, .ref 85), (1, .int (nI h)), (2, .int mx), (3, .int (nI t))]) (j := 1) dSlips_greatestAlike_46 rfl (by decide) rfl ?_
      refine a_goto (tgt := 18) dSlips_greatestAlike_49 (by decide) ?_
      have ez9 : gaA I h t s0 (k + 1) = (s + 1) := by
        show gaAS I h t k (gaA I h t s0 k) = _
        rw [es]
        unfold gaAS
        rw [if_pos c40]
      exact ih (k + 1) (by omega) (s + 1) ez9
def gaBS (I : mI) (f h : Nat) (k : Nat) (s : Int32) : Int32 := (if s < (nI (gaA I h k 0 f)) then (nI (gaA I h k 0 f)) else s)
def gaB (I : mI) (f h : Nat) (s0 : Int32) : Nat → Int32
  | 0 => s0
  | k + 1 => gaBS I f h k (gaB I f h s0 k)
theorem l_gaB {S : Nat × (Nat → Int32)} {d n : Nat} {I : mI} {J : mJ} {R : mR} (hn : 122 ≤ n) (hR : m_fin R) {f nh : Nat} {cd : Nat → Nat} (hfd : I 85 0 = nI f) (hf61 : f ≤ 61) (hhs : I 85 4 = nI nh) (hnh : nh ≤ 6) (hcd : ∀ i, i < f → I 86 i = nI (cd i) ∧ cd i < 100) {h : Nat} (hh6 : h < 6)  {s0 : Int32} {Q : Option Value → mI → mJ → mR → Prop}  (hx : AW S (d + 1) YSlips_greatestAlike n n Q 65 [(3, .int (nI f)), (2, .int (gaB I f h s0 f)), (0, .ref 85), (1, .int (nI h))] [] I J R n) : ∀ m k, k + m = f → ∀ s : Int32, gaB I f h s0 k = s → AW S (d + 1) YSlips_greatestAlike n n Q 4 [(3, .int (nI k)), (2, .int s), (0, .ref 85), (1, .int (nI h))] [] I J R n := by
  intro m
  induction m with
  | zero =>
    intro k hk9 s es
    rw [show k = f by omega] at es ⊢
    subst es
    refine a_iload_n 0 dSlips_greatestAlike_4 rfl rfl ?_
    refine a_aload_n 2 dSlips_greatestAlike_5 rfl rfl ?_
    refine a_geti dSlips_greatestAlike_6 fl8_25 rfl ly_85 (by omega) ?_
    rw [show I 85 0 = (nI f) from hfd]
    refine a_icmp_geN (tgt := 65) dSlips_greatestAlike_9 (by decide) (by omega) (by omega) (fun _ => ?_) (fun c => False.elim (by omega))
    exact hx
  | succ m ih =>
    intro k hk9 s es
    refine a_iload_n 0 dSlips_greatestAlike_4 rfl rfl ?_
    refine a_aload_n 2 dSlips_greatestAlike_5 rfl rfl ?_
    refine a_geti dSlips_greatestAlike_6 fl8_25 rfl ly_85 (by omega) ?_
    rw [show I 85 0 = (nI f) from hfd]
    refine a_icmp_geN (tgt := 65) dSlips_greatestAlike_9 (by decide) (by omega) (by omega) (fun c => False.elim (by omega)) (fun _ => ?_)
    refine a_iconstN (a := 0) dSlips_greatestAlike_12 (by decide) ?_
    refine a_istore (lv' := [(4, .int (nI 0)), (3, .int (nI k)), (2, .int s), (0, .ref 85), (1, .int (nI h))]) dSlips_greatestAlike_13 (by decide) rfl ?_
    refine a_iconstN (a := 0) dSlips_greatestAlike_15 (by decide) ?_
    refine a_istore (lv' := [(5, .int (nI 0)), (4, .int (nI 0)), (3, .int (nI k)), (2, .int s), (0, .ref 85), (1, .int (nI h))]) dSlips_greatestAlike_16 (by decide) rfl ?_
    refine a_locs (lv' := [(5, .int (nI 0)), (4, .int (nI 0)), (0, .ref 85), (1, .int (nI h)), (2, .int s), (3, .int (nI k))]) [0, 1, 4, 5, 3, 2] rfl ?_
    refine l_gaA (s0 := 0) hn hR hfd hf61 hhs hnh hcd hh6 (t := k) (by omega) ?_ f 0 (by omega) _ rfl
    refine a_iload_n 4 dSlips_greatestAlike_52 rfl rfl ?_
    refine a_iload 1 dSlips_greatestAlike_53 rfl ?_
    refine a_max dSlips_greatestAlike_55 mm8_94 (Nat.le_of_ble_eq_true rfl) (Nat.le_refl _) ?_
    refine a_istore_n (lv' := [(2, .int (if s < (nI (gaA I h k 0 f)) then (nI (gaA I h k 0 f)) else s)), (5, .int (nI f)), (4, .int (nI (gaA I h k 0 f))), (0, .ref 85), (1, .int (nI h)), (3, .int (nI k))]) dSlips_greatestAlike_58 rfl (by decide) rfl ?_
    refine a_iincN (lv' := [(3, .int (nI (k + 1))), (2, .int (if s < (nI (gaA I h k 0 f)) then (nI (gaA I h k 0 f)) else s)), (5, .int (nI f)), (4, .int (nI (gaA I h k 0 f))), (0, .ref 85), (1, .int (nI h))]) (j := 5) dSlips_greatestAlike_59 rfl (by decide) rfl ?_
    refine a_goto (tgt := 4) dSlips_greatestAlike_62 (by decide) ?_
    have ez9 : gaB I f h s0 (k + 1) = (if s < (nI (gaA I h k 0 f)) then (nI (gaA I h k 0 f)) else s) := by
      show gaBS I f h k (gaB I f h s0 k) = _
      rw [es]
      unfold gaBS
      rfl
    refine a_locs (lv' := [(3, .int (nI (k + 1))), (2, .int (if s < (nI (gaA I h k 0 f)) then (nI (gaA I h k 0 f)) else s)), (0, .ref 85), (1, .int (nI h))]) [0, 1, 4, 5] rfl ?_
    exact ih (k + 1) (by omega) (if s < (nI (gaA I h k 0 f)) then (nI (gaA I h k 0 f)) else s) ez9
theorem c_Slips_greatestAlike {S : Nat × (Nat → Int32)} {d n : Nat} {I : mI} {J : mJ} {R : mR} (hn : 122 ≤ n) (hR : m_fin R) {f nh : Nat} {cd : Nat → Nat} (hfd : I 85 0 = nI f) (hf61 : f ≤ 61) (hhs : I 85 4 = nI nh) (hnh : nh ≤ 6) (hcd : ∀ i, i < f → I 86 i = nI (cd i) ∧ cd i < 100) {h : Nat} (hh6 : h < 6)  : RUN S (d + 1) YSlips_greatestAlike [.ref 85, .int (nI h)] I J R n (some (.int (gaB I f h (nI 0) f))) I J R n := by
  show AW S _ YSlips_greatestAlike n n _ 0 [(0, .ref 85), (1, .int (nI h))] [] I J R n
  refine a_iconstN (a := 0) dSlips_greatestAlike_0 (by decide) ?_
  refine a_istore_n (lv' := [(2, .int (nI 0)), (0, .ref 85), (1, .int (nI h))]) dSlips_greatestAlike_1 rfl (by decide) rfl ?_
  refine a_iconstN (a := 0) dSlips_greatestAlike_2 (by decide) ?_
  refine a_istore_n (lv' := [(3, .int (nI 0)), (2, .int (nI 0)), (0, .ref 85), (1, .int (nI h))]) dSlips_greatestAlike_3 rfl (by decide) rfl ?_
  refine l_gaB (s0 := (nI 0)) hn hR hfd hf61 hhs hnh hcd hh6 ?_ f 0 (by omega) _ rfl
  refine a_iload_n 1 dSlips_greatestAlike_65 rfl rfl ?_
  exact a_iret dSlips_greatestAlike_66 rfl ⟨rfl, rfl, rfl, rfl⟩
def askNS (I : mI) (f : Nat) (k : Nat) (s : Int32 × Int32) : Int32 × Int32 := (if s.2 ≤ (gaB I f k (nI 0) f) then (s.1, s.2) else ((nI k), (gaB I f k (nI 0) f)))
def askN (I : mI) (f : Nat) (s0 : Int32 × Int32) : Nat → Int32 × Int32
  | 0 => s0
  | k + 1 => askNS I f k (askN I f s0 k)
theorem l_askN {S : Nat × (Nat → Int32)} {d n : Nat} {I : mI} {J : mJ} {R : mR} (hn : 122 ≤ n) (hR : m_fin R) {f nh : Nat} {cd : Nat → Nat} (hfd : I 85 0 = nI f) (hf61 : f ≤ 61) (hhs : I 85 4 = nI nh) (hnh : nh ≤ 6) (hcd : ∀ i, i < f → I 86 i = nI (cd i) ∧ cd i < 100) (hf0 : 0 < f)  {s0 : Int32 × Int32} {Q : Option Value → mI → mJ → mR → Prop}  (hx : AW S (d + 2) YSlips_ask n n Q 50 [(3, .int (nI nh)), (1, .int (askN I f s0 nh).1), (2, .int (askN I f s0 nh).2), (0, .ref 85)] [] I J R n) : ∀ m k, k + m = nh → ∀ s : Int32 × Int32, askN I f s0 k = s → AW S (d + 2) YSlips_ask n n Q 11 [(3, .int (nI k)), (1, .int s.1), (2, .int s.2), (0, .ref 85)] [] I J R n := by
  intro m
  induction m with
  | zero =>
    intro k hk9 s es
    rw [show k = nh by omega] at es ⊢
    subst es
    refine a_iload_n 0 dSlips_ask_11 rfl rfl ?_
    refine a_aload_n 3 dSlips_ask_12 rfl rfl ?_
    refine a_geti dSlips_ask_13 fl8_34 rfl ly_85 (by omega) ?_
    rw [show I 85 4 = (nI nh) from hhs]
    refine a_icmp_geN (tgt := 50) dSlips_ask_16 (by decide) (by omega) (by omega) (fun _ => ?_) (fun c => False.elim (by omega))
    exact hx
  | succ m ih =>
    intro k hk9 s es
    refine a_iload_n 0 dSlips_ask_11 rfl rfl ?_
    refine a_aload_n 3 dSlips_ask_12 rfl rfl ?_
    refine a_geti dSlips_ask_13 fl8_34 rfl ly_85 (by omega) ?_
    rw [show I 85 4 = (nI nh) from hhs]
    refine a_icmp_geN (tgt := 50) dSlips_ask_16 (by decide) (by omega) (by omega) (fun c => False.elim (by omega)) (fun _ => ?_)
    refine a_aload_n 3 dSlips_ask_19 rfl rfl ?_
    refine a_geti dSlips_ask_20 fl8_25 rfl ly_85 (by omega) ?_
    rw [show I 85 0 = (nI f) from hfd]
    refine a_if_le (tgt := 50) dSlips_ask_23 (by decide) (fun c => False.elim (nI_nle hf0 (by omega) c)) (fun _ => ?_)
    refine a_aload_n 3 dSlips_ask_26 rfl rfl ?_
    refine a_iload_n 0 dSlips_ask_27 rfl rfl ?_
    refine a_callV (Q' := m_res (some (.int (gaB I f k (nI 0) f))) I J R) (as := [.int (nI k)]) (st := []) dSlips_ask_28 ml8_86 rfl (Nat.le_of_ble_eq_true rfl) ly_85 rfl rfl (by decide) (by omega) (Nat.le_of_ble_eq_true rfl) rfl (Nat.le_refl _) (Nat.le_refl _) (c_Slips_greatestAlike hn hR hfd hf61 hhs hnh hcd (by omega)) (m_go ?_)
    show AW _ _ _ _ _ _ _ _ [.int (gaB I f k (nI 0) f)] _ _ _ _
    refine a_istore (lv' := [(4, .int (gaB I f k (nI 0) f)), (3, .int (nI k)), (1, .int s.1), (2, .int s.2), (0, .ref 85)]) dSlips_ask_31 (by decide) rfl ?_
    refine a_iload 0 dSlips_ask_33 rfl ?_
    refine a_iload_n 3 dSlips_ask_35 rfl rfl ?_
    refine a_icmp_ge (tgt := 44) dSlips_ask_36 (by decide) (fun c36 => ?_) (fun c36 => ?_)
    · refine a_iincN (lv' := [(3, .int (nI (k + 1))), (4, .int (gaB I f k (nI 0) f)), (1, .int s.1), (2, .int s.2), (0, .ref 85)]) (j := 1) dSlips_ask_44 rfl (by decide) rfl ?_
      refine a_goto (tgt := 11) dSlips_ask_47 (by decide) ?_
      have ez9 : askN I f s0 (k + 1) = (s.1, s.2) := by
        show askNS I f k (askN I f s0 k) = _
        rw [es]
        unfold askNS
        rw [if_pos c36]
      refine a_locs (lv' := [(3, .int (nI (k + 1))), (1, .int s.1), (2, .int s.2), (0, .ref 85)]) [0, 2, 3, 4] rfl ?_
      exact ih (k + 1) (by omega) (s.1, s.2) ez9
    · refine a_iload_n 1 dSlips_ask_39 rfl rfl ?_
      refine a_istore_n (lv' := [(1, .int (nI k)), (4, .int (gaB I f k (nI 0) f)), (3, .int (nI k)), (2, .int s.2), (0, .ref 85)]) dSlips_ask_40 rfl (by decide) rfl ?_
      refine a_iload 1 dSlips_ask_41 rfl ?_
      refine a_istore_n (lv' := [(2, .int (gaB I f k (nI 0) f)), (1, .int (nI k)), (4, .int (gaB I f k (nI 0) f)), (3, .int (nI k)), (0, .ref 85)]) dSlips_ask_43 rfl (by decide) rfl ?_
      refine a_iincN (lv' := [(3, .int (nI (k + 1))), (2, .int (gaB I f k (nI 0) f)), (1, .int (nI k)), (4, .int (gaB I f k (nI 0) f)), (0, .ref 85)]) (j := 3) dSlips_ask_44 rfl (by decide) rfl ?_
      refine a_goto (tgt := 11) dSlips_ask_47 (by decide) ?_
      have ez9 : askN I f s0 (k + 1) = ((nI k), (gaB I f k (nI 0) f)) := by
        show askNS I f k (askN I f s0 k) = _
        rw [es]
        unfold askNS
        rw [if_neg c36]
      refine a_locs (lv' := [(3, .int (nI (k + 1))), (1, .int (nI k)), (2, .int (gaB I f k (nI 0) f)), (0, .ref 85)]) [0, 2, 1, 4] rfl ?_
      exact ih (k + 1) (by omega) ((nI k), (gaB I f k (nI 0) f)) ez9
def askC (I : mI) (f nh : Nat) : Int32 := if f = 0 then -1 else (askN I f (-1, nI (f + 1)) nh).1
theorem c_Slips_ask {S : Nat × (Nat → Int32)} {d n : Nat} {I : mI} {J : mJ} {R : mR} (hn : 122 ≤ n) (hR : m_fin R) {f nh : Nat} {cd : Nat → Nat} (hfd : I 85 0 = nI f) (hf61 : f ≤ 61) (hhs : I 85 4 = nI nh) (hnh : nh ≤ 6) (hcd : ∀ i, i < f → I 86 i = nI (cd i) ∧ cd i < 100)  : RUN S (d + 2) YSlips_ask [.ref 85] I J R n (some (.int (askC I f nh))) I J R n := by
  show AW S _ YSlips_ask n n _ 0 [(0, .ref 85)] [] I J R n
  refine a_iconst (v := -1) dSlips_ask_0 (by decide) ?_
  refine a_istore_n (lv' := [(1, .int (-1)), (0, .ref 85)]) dSlips_ask_1 rfl (by decide) rfl ?_
  refine a_aload_n 1 dSlips_ask_2 rfl rfl ?_
  refine a_geti dSlips_ask_3 fl8_25 rfl ly_85 (by omega) ?_
  rw [show I 85 0 = (nI f) from hfd]
  refine a_iconstN (a := 1) dSlips_ask_6 (by decide) ?_
  refine a_iaddN (a := f) (b := 1) dSlips_ask_7 ?_
  refine a_istore_n (lv' := [(2, .int (nI (f + 1))), (1, .int (-1)), (0, .ref 85)]) dSlips_ask_8 rfl (by decide) rfl ?_
  refine a_iconstN (a := 0) dSlips_ask_9 (by decide) ?_
  refine a_istore_n (lv' := [(3, .int (nI 0)), (2, .int (nI (f + 1))), (1, .int (-1)), (0, .ref 85)]) dSlips_ask_10 rfl (by decide) rfl ?_
  by_cases hz : f = 0
  · refine a_iload_n 0 dSlips_ask_11 rfl rfl ?_
    refine a_aload_n 3 dSlips_ask_12 rfl rfl ?_
    refine a_geti dSlips_ask_13 fl8_34 rfl ly_85 (by omega) ?_
    rw [show I 85 4 = (nI nh) from hhs]
    refine a_icmp_geN (tgt := 50) dSlips_ask_16 (by decide) (by omega) (by omega) (fun c16 => ?_) (fun c16 => ?_)
    · refine a_iload_n 2 dSlips_ask_50 rfl rfl ?_
      exact a_iret dSlips_ask_51 rfl ⟨by unfold askC; rw [if_pos hz], rfl, rfl, rfl⟩
    · refine a_aload_n 3 dSlips_ask_19 rfl rfl ?_
      refine a_geti dSlips_ask_20 fl8_25 rfl ly_85 (by omega) ?_
      rw [show I 85 0 = (nI f) from hfd]
      refine a_if_le (tgt := 50) dSlips_ask_23 (by decide) (fun _ => ?_) (fun c => False.elim (c (by rw [hz]; decide)))
      refine a_iload_n 2 dSlips_ask_50 rfl rfl ?_
      exact a_iret dSlips_ask_51 rfl ⟨by unfold askC; rw [if_pos hz], rfl, rfl, rfl⟩
  · refine a_locs (lv' := [(3, .int (nI 0)), (1, .int (-1)), (2, .int (nI (f + 1))), (0, .ref 85)]) [0, 2, 1, 3] rfl ?_
    refine l_askN (s0 := (-1, nI (f + 1))) hn hR hfd hf61 hhs hnh hcd (by omega) ?_ nh 0 (by omega) _ rfl
    refine a_iload_n 1 dSlips_ask_50 rfl rfl ?_
    exact a_iret dSlips_ask_51 rfl ⟨by unfold askC; rw [if_neg hz], rfl, rfl, rfl⟩
def anLo (I : mI) (f nh : Nat) (cd : Nat → Nat) (x : Int32) : Int32 := if x = 0 then nI f else if x = 1 then suC f cd (fun q => q % 10) else if x = 2 then suC f cd (fun q => q / 10) else if x = 3 then askC I f nh else -2
theorem c_ansLo {S : Nat × (Nat → Int32)} {d n : Nat} {I : mI} {J : mJ} {R : mR} (hn : 122 ≤ n) (hR : m_fin R) {f nh : Nat} {cd : Nat → Nat} (hfd : I 85 0 = nI f) (hf61 : f ≤ 61) (hhs : I 85 4 = nI nh) (hnh : nh ≤ 6) (hcd : ∀ i, i < f → I 86 i = nI (cd i) ∧ cd i < 100) {x : Int32} (hx : x < nI 10)  : RUN S (d + 3) YSlips_answer [.ref 85, .int x] I J R n (some (.int (anLo I f nh cd x))) I J R n := by
  show AW S _ YSlips_answer n n _ 0 [(0, .ref 85), (1, .int x)] [] I J R n
  refine a_iload_n 1 dSlips_answer_0 rfl rfl ?_
  by_cases hs0 : x = 0
  · refine a_tab (off := 31) (tgt := 32) dSlips_answer_1 hs0 (by decide) (by decide) (by decide) (by decide) ?_
    refine a_aload_n 0 dSlips_answer_32 rfl rfl ?_
    refine a_geti dSlips_answer_33 fl8_25 rfl ly_85 (by omega) ?_
    rw [show I 85 0 = (nI f) from hfd]
    exact a_iret dSlips_answer_36 rfl ⟨by unfold anLo; rw [if_pos hs0], rfl, rfl, rfl⟩
  by_cases hs1 : x = 1
  · refine a_tab (off := 36) (tgt := 37) dSlips_answer_1 hs1 (by decide) (by decide) (by decide) (by decide) ?_
    refine a_aload_n 0 dSlips_answer_37 rfl rfl ?_
    refine a_callV (Q' := m_res (some (.int (suC f cd (fun q => q % 10)))) I J R) (as := []) (st := []) dSlips_answer_38 ml8_76 rfl (Nat.le_of_ble_eq_true rfl) ly_85 rfl rfl (by decide) (by omega) (Nat.le_of_ble_eq_true rfl) rfl (Nat.le_refl _) (Nat.le_refl _) (c_Slips_sureLetter hn hR hfd hf61 hhs hnh hcd) (m_go ?_)
    show AW _ _ _ _ _ _ _ _ [.int (suC f cd (fun q => q % 10))] _ _ _ _
    exact a_iret dSlips_answer_41 rfl ⟨by unfold anLo; rw [if_neg hs0, if_pos hs1], rfl, rfl, rfl⟩
  by_cases hs2 : x = 2
  · refine a_tab (off := 41) (tgt := 42) dSlips_answer_1 hs2 (by decide) (by decide) (by decide) (by decide) ?_
    refine a_aload_n 0 dSlips_answer_42 rfl rfl ?_
    refine a_callV (Q' := m_res (some (.int (suC f cd (fun q => q / 10)))) I J R) (as := []) (st := []) dSlips_answer_43 ml8_80 rfl (Nat.le_of_ble_eq_true rfl) ly_85 rfl rfl (by decide) (by omega) (Nat.le_of_ble_eq_true rfl) rfl (Nat.le_refl _) (Nat.le_refl _) (c_Slips_sureHouse hn hR hfd hf61 hhs hnh hcd) (m_go ?_)
    show AW _ _ _ _ _ _ _ _ [.int (suC f cd (fun q => q / 10))] _ _ _ _
    exact a_iret dSlips_answer_46 rfl ⟨by unfold anLo; rw [if_neg hs0, if_neg hs1, if_pos hs2], rfl, rfl, rfl⟩
  by_cases hs3 : x = 3
  · refine a_tab (off := 46) (tgt := 47) dSlips_answer_1 hs3 (by decide) (by decide) (by decide) (by decide) ?_
    refine a_aload_n 0 dSlips_answer_47 rfl rfl ?_
    refine a_callV (Q' := m_res (some (.int (askC I f nh))) I J R) (as := []) (st := []) dSlips_answer_48 ml8_83 rfl (Nat.le_of_ble_eq_true rfl) ly_85 rfl rfl (by decide) (by omega) (Nat.le_of_ble_eq_true rfl) rfl (Nat.le_refl _) (Nat.le_refl _) (c_Slips_ask hn hR hfd hf61 hhs hnh hcd) (m_go ?_)
    show AW _ _ _ _ _ _ _ _ [.int (askC I f nh)] _ _ _ _
    exact a_iret dSlips_answer_51 rfl ⟨by unfold anLo; rw [if_neg hs0, if_neg hs1, if_neg hs2, if_pos hs3], rfl, rfl, rfl⟩
  refine a_tableOut (tgt := 52) dSlips_answer_1 (m_swo0_3 hs0 hs1 hs2 hs3) (by decide) ?_
  refine a_iload_n 1 dSlips_answer_52 rfl rfl ?_
  refine a_bipushN (a := 10) dSlips_answer_53 (by decide) ?_
  refine a_icmp_lt (tgt := 81) dSlips_answer_55 (by decide) (fun _ => ?_) (fun c => False.elim (c hx))
  refine a_bipush (v := -2) dSlips_answer_81 (by decide) ?_
  exact a_iret dSlips_answer_83 rfl ⟨by unfold anLo; rw [if_neg hs0, if_neg hs1, if_neg hs2, if_neg hs3], rfl, rfl, rfl⟩
theorem c_ansHi {S : Nat × (Nat → Int32)} {d n : Nat} {I : mI} {J : mJ} {R : mR} (hn : 122 ≤ n) (hR : m_fin R) {f nh : Nat} {cd : Nat → Nat} (hfd : I 85 0 = nI f) (hf61 : f ≤ 61) (hhs : I 85 4 = nI nh) (hnh : nh ≤ 6) (hcd : ∀ i, i < f → I 86 i = nI (cd i) ∧ cd i < 100) {w : Nat} (hw : 10 ≤ w) (hw2 : w < 2 ^ 31)  : RUN S (d + 3) YSlips_answer [.ref 85, .int (nI w)] I J R n (some (.int (if w - 10 < f then nI (cd (w - 10)) else -2))) I J R n := by
  show AW S _ YSlips_answer n n _ 0 [(0, .ref 85), (1, .int (nI w))] [] I J R n
  refine a_iload_n 1 dSlips_answer_0 rfl rfl ?_
  refine a_tableOut (tgt := 52) dSlips_answer_1 (Or.inr (by rw [nI_toInt (by omega)]; omega)) (by decide) ?_
  refine a_iload_n 1 dSlips_answer_52 rfl rfl ?_
  refine a_bipushN (a := 10) dSlips_answer_53 (by decide) ?_
  refine a_icmp_ltN (tgt := 81) dSlips_answer_55 (by decide) (by omega) (by omega) (fun c => False.elim (by omega)) (fun _ => ?_)
  refine a_iload_n 1 dSlips_answer_58 rfl rfl ?_
  refine a_bipushN (a := 10) dSlips_answer_59 (by decide) ?_
  refine a_isubN dSlips_answer_61 hw ?_
  refine a_aload_n 0 dSlips_answer_62 rfl rfl ?_
  refine a_geti dSlips_answer_63 fl8_25 rfl ly_85 (by omega) ?_
  rw [show I 85 0 = (nI f) from hfd]
  refine a_icmp_geN (tgt := 81) dSlips_answer_66 (by decide) (by omega) (by omega) (fun c66 => ?_) (fun c66 => ?_)
  · refine a_bipush (v := -2) dSlips_answer_81 (by decide) ?_
    exact a_iret dSlips_answer_83 rfl ⟨by rw [if_neg (show ¬ w - 10 < f by omega)], rfl, rfl, rfl⟩
  · refine a_aload_n 0 dSlips_answer_69 rfl rfl ?_
    refine a_geta (r := 86) dSlips_answer_70 fl8_11 rfl ly_85 (by omega) (rf_85_1 hR) ?_
    refine a_iload_n 1 dSlips_answer_73 rfl rfl ?_
    refine a_bipushN (a := 10) dSlips_answer_74 (by decide) ?_
    refine a_isubN dSlips_answer_76 hw ?_
    refine a_ialdN (a := (w - 10)) dSlips_answer_77 ly_86 (by omega) (by omega) (by decide) ?_
    rw [show I 86 (w - 10) = I 86 (w - 10) from rfl]
    rw [show (I 86 (w - 10)) = (nI (cd (w - 10))) from (hcd (w - 10) (by omega)).1]
    refine a_goto (tgt := 83) dSlips_answer_78 (by decide) ?_
    exact a_iret dSlips_answer_83 rfl ⟨by rw [if_pos (show w - 10 < f by omega)], rfl, rfl, rfl⟩
theorem ft_lt {P : Nat → Bool} : ∀ k i, i < (fitL P k).length → (fitL P k).getD i 0 < k := by
  intro k
  induction k with
  | zero => intro i hi; exact absurd hi (Nat.not_lt_zero _)
  | succ k ih =>
    intro i hi
    unfold fitL at hi ⊢
    split
    · rename_i hp
      rw [if_pos hp, List.length_append] at hi
      rw [getD_app]
      have hi2 : i < (fitL P k).length + 1 := hi
      by_cases h : i < (fitL P k).length
      · rw [if_pos h]; exact Nat.lt_succ_of_lt (ih i h)
      · rw [if_neg h, if_pos (by omega)]; exact Nat.lt_succ_self k
    · rename_i hp
      rw [if_neg hp] at hi
      exact Nat.lt_succ_of_lt (ih i hi)
theorem ft_61 {I : mI} {o g c nh nl : Nat} (hnh : nh ≤ 6) : (ftL I o g c nh nl 100).length ≤ 61 := by
  have e99 : ftL I o g c nh nl 99 = ftL I o g c nh nl (10 * nh) := by
    rw [show 99 = 10 * nh + (99 - 10 * nh) by omega]
    exact fitL_skip _ (fun j h1 h2 => ft_n (fun q => by rcases q with h | h; omega; omega))
  have h1 : (ftL I o g c nh nl (10 * nh)).length ≤ 10 * nh := fitL_len _
  by_cases h : mayP I o nh nl 99 ∧ agP I o g c nh nl 99
  · rw [show (100 : Nat) = 99 + 1 from rfl, ft_t h.1 h.2, e99, List.length_append]
    show _ + 1 ≤ 61
    omega
  · rw [show (100 : Nat) = 99 + 1 from rfl, ft_f h, e99]
    omega
theorem KP.g8 {I : mI} {F C M X md ls cm : Nat → Int32} : KP I (g8 I F C M X md ls cm) := (((((((KP.refl).row (by omega)).row (by omega)).row (by omega)).row (by omega)).row (by omega)).row (by omega)).row (by omega)
theorem q_S_fits00 {S : Nat × (Nat → Int32)} {d n : Nat} {I : mI} {J : mJ} {R : mR} (hn : 122 ≤ n) (hR : m_fin R) {x y : Int32} {z : Int32} (h0 : f_of x (I 3 0) = 0) (hg0 : f_of y (I 3 2) = 0)  : AW S (d + 7) YS_fits n n (qV I R (.int (-2))) 0 [(0, .ref 0), (1, .int x), (2, .int y), (3, .int z)] [] I J R n := by
  refine a_aload_n 0 dS_fits_0 rfl rfl ?_
  refine a_geta (r := 1) dS_fits_1 fl11_10 rfl ly_0 (by omega) (rf_0_0 hR) ?_
  refine a_iload_n 1 dS_fits_4 rfl rfl ?_
  refine a_callV (Q' := m_res (some (.null)) I J R) (as := [.int x]) (st := []) dS_fits_5 ml11_101 rfl (Nat.le_of_ble_eq_true rfl) ly_1 rfl rfl (by decide) (by omega) (Nat.le_of_ble_eq_true rfl) rfl (Nat.le_refl _) (Nat.le_refl _) (c_Told_officeAt0 hn hR h0) (m_go ?_)
  show AW _ _ _ _ _ _ _ _ [.null] _ _ _ _
  refine a_astoreN (lv' := [(4, .null), (0, .ref 0), (1, .int x), (2, .int y), (3, .int z)]) dS_fits_8 (by decide) rfl ?_
  refine a_aload_n 1 dS_fits_10 rfl rfl ?_
  refine a_geta (r := 1) dS_fits_11 fl11_10 rfl ly_0 (by omega) (rf_0_0 hR) ?_
  refine a_iload_n 3 dS_fits_14 rfl rfl ?_
  refine a_callV (Q' := m_res (some (.null)) I J R) (as := [.int y]) (st := []) dS_fits_15 ml11_189 rfl (Nat.le_of_ble_eq_true rfl) ly_1 rfl rfl (by decide) (by omega) (Nat.le_of_ble_eq_true rfl) rfl (Nat.le_refl _) (Nat.le_refl _) (c_Told_logAt0 hn hR hg0) (m_go ?_)
  show AW _ _ _ _ _ _ _ _ [.null] _ _ _ _
  refine a_astoreN (lv' := [(5, .null), (4, .null), (0, .ref 0), (1, .int x), (2, .int y), (3, .int z)]) dS_fits_18 (by decide) rfl ?_
  refine a_aloadN 1 dS_fits_20 rfl ?_
  refine a_ifnullN (tgt := 40) dS_fits_22 (by decide) ?_
  refine a_bipush (v := -2) dS_fits_40 (by decide) ?_
  exact a_iret dS_fits_42 rfl ⟨rfl, KP.refl, (KF.refl hR)⟩
theorem q_S_fits01 {S : Nat × (Nat → Int32)} {d n : Nat} {I : mI} {J : mJ} {R : mR} (hn : 122 ≤ n) (hR : m_fin R) {x y : Int32} {z : Int32} {kg g : Nat} (hy : y = nI kg) (h0 : f_of x (I 3 0) = 0) (hlg1 : f_of y (I 3 2) = 1) (hkg : kg < 2) (hrog : R 32 kg = some g)  : AW S (d + 7) YS_fits n n (qV I R (.int (-2))) 0 [(0, .ref 0), (1, .int x), (2, .int y), (3, .int z)] [] I J R n := by
  refine a_aload_n 0 dS_fits_0 rfl rfl ?_
  refine a_geta (r := 1) dS_fits_1 fl11_10 rfl ly_0 (by omega) (rf_0_0 hR) ?_
  refine a_iload_n 1 dS_fits_4 rfl rfl ?_
  refine a_callV (Q' := m_res (some (.null)) I J R) (as := [.int x]) (st := []) dS_fits_5 ml11_101 rfl (Nat.le_of_ble_eq_true rfl) ly_1 rfl rfl (by decide) (by omega) (Nat.le_of_ble_eq_true rfl) rfl (Nat.le_refl _) (Nat.le_refl _) (c_Told_officeAt0 hn hR h0) (m_go ?_)
  show AW _ _ _ _ _ _ _ _ [.null] _ _ _ _
  refine a_astoreN (lv' := [(4, .null), (0, .ref 0), (1, .int x), (2, .int y), (3, .int z)]) dS_fits_8 (by decide) rfl ?_
  refine a_aload_n 1 dS_fits_10 rfl rfl ?_
  refine a_geta (r := 1) dS_fits_11 fl11_10 rfl ly_0 (by omega) (rf_0_0 hR) ?_
  refine a_iload_n 3 dS_fits_14 rfl rfl ?_
  refine a_callV (Q' := m_res (some (.ref g)) I J R) (as := [.int y]) (st := []) dS_fits_15 ml11_189 rfl (Nat.le_of_ble_eq_true rfl) ly_1 rfl rfl (by decide) (by omega) (Nat.le_of_ble_eq_true rfl) rfl (Nat.le_refl _) (Nat.le_refl _) (by subst hy; exact c_Told_logAt1 hn hR hlg1 hkg hrog) (m_go ?_)
  show AW _ _ _ _ _ _ _ _ [.ref g] _ _ _ _
  refine a_astore (lv' := [(5, .ref g), (4, .null), (0, .ref 0), (1, .int x), (2, .int y), (3, .int z)]) dS_fits_18 (by decide) rfl ?_
  refine a_aloadN 1 dS_fits_20 rfl ?_
  refine a_ifnullN (tgt := 40) dS_fits_22 (by decide) ?_
  refine a_bipush (v := -2) dS_fits_40 (by decide) ?_
  exact a_iret dS_fits_42 rfl ⟨rfl, KP.refl, (KF.refl hR)⟩
theorem q_S_fits10 {S : Nat × (Nat → Int32)} {d n : Nat} {I : mI} {J : mJ} {R : mR} (hn : 122 ≤ n) (hR : m_fin R) {x y : Int32} {z : Int32} {k o : Nat} (hx : x = nI k) (h1 : f_of x (I 3 0) = 1) (hk : k < 2) (hro : R 4 k = some o) (hg0 : f_of y (I 3 2) = 0)  : AW S (d + 7) YS_fits n n (qV I R (.int (-2))) 0 [(0, .ref 0), (1, .int x), (2, .int y), (3, .int z)] [] I J R n := by
  refine a_aload_n 0 dS_fits_0 rfl rfl ?_
  refine a_geta (r := 1) dS_fits_1 fl11_10 rfl ly_0 (by omega) (rf_0_0 hR) ?_
  refine a_iload_n 1 dS_fits_4 rfl rfl ?_
  refine a_callV (Q' := m_res (some (.ref o)) I J R) (as := [.int x]) (st := []) dS_fits_5 ml11_101 rfl (Nat.le_of_ble_eq_true rfl) ly_1 rfl rfl (by decide) (by omega) (Nat.le_of_ble_eq_true rfl) rfl (Nat.le_refl _) (Nat.le_refl _) (by subst hx; exact c_Told_officeAt1 hn hR h1 hk hro) (m_go ?_)
  show AW _ _ _ _ _ _ _ _ [.ref o] _ _ _ _
  refine a_astore (lv' := [(4, .ref o), (0, .ref 0), (1, .int x), (2, .int y), (3, .int z)]) dS_fits_8 (by decide) rfl ?_
  refine a_aload_n 1 dS_fits_10 rfl rfl ?_
  refine a_geta (r := 1) dS_fits_11 fl11_10 rfl ly_0 (by omega) (rf_0_0 hR) ?_
  refine a_iload_n 3 dS_fits_14 rfl rfl ?_
  refine a_callV (Q' := m_res (some (.null)) I J R) (as := [.int y]) (st := []) dS_fits_15 ml11_189 rfl (Nat.le_of_ble_eq_true rfl) ly_1 rfl rfl (by decide) (by omega) (Nat.le_of_ble_eq_true rfl) rfl (Nat.le_refl _) (Nat.le_refl _) (c_Told_logAt0 hn hR hg0) (m_go ?_)
  show AW _ _ _ _ _ _ _ _ [.null] _ _ _ _
  refine a_astoreN (lv' := [(5, .null), (4, .ref o), (0, .ref 0), (1, .int x), (2, .int y), (3, .int z)]) dS_fits_18 (by decide) rfl ?_
  refine a_aload 1 dS_fits_20 rfl ?_
  refine a_ifnull dS_fits_22 ?_
  refine a_aloadN 0 dS_fits_25 rfl ?_
  refine a_ifnullN (tgt := 40) dS_fits_27 (by decide) ?_
  refine a_bipush (v := -2) dS_fits_40 (by decide) ?_
  exact a_iret dS_fits_42 rfl ⟨rfl, KP.refl, (KF.refl hR)⟩
theorem q_S_then00 {S : Nat × (Nat → Int32)} {d n : Nat} {I : mI} {J : mJ} {R : mR} (hn : 122 ≤ n) (hR : m_fin R) {x y : Int32} {z t : Int32} (h0 : f_of x (I 3 0) = 0) (hg0 : f_of y (I 3 2) = 0)  : AW S (d + 7) YS_then n n (qV I R (.int (-1000))) 0 [(0, .ref 0), (1, .int x), (2, .int y), (3, .int z), (4, .int t)] [] I J R n := by
  refine a_aload_n 0 dS_then_0 rfl rfl ?_
  refine a_geta (r := 1) dS_then_1 fl11_10 rfl ly_0 (by omega) (rf_0_0 hR) ?_
  refine a_iload_n 1 dS_then_4 rfl rfl ?_
  refine a_callV (Q' := m_res (some (.null)) I J R) (as := [.int x]) (st := []) dS_then_5 ml11_101 rfl (Nat.le_of_ble_eq_true rfl) ly_1 rfl rfl (by decide) (by omega) (Nat.le_of_ble_eq_true rfl) rfl (Nat.le_refl _) (Nat.le_refl _) (c_Told_officeAt0 hn hR h0) (m_go ?_)
  show AW _ _ _ _ _ _ _ _ [.null] _ _ _ _
  refine a_astoreN (lv' := [(5, .null), (0, .ref 0), (1, .int x), (2, .int y), (3, .int z), (4, .int t)]) dS_then_8 (by decide) rfl ?_
  refine a_aload_n 1 dS_then_10 rfl rfl ?_
  refine a_geta (r := 1) dS_then_11 fl11_10 rfl ly_0 (by omega) (rf_0_0 hR) ?_
  refine a_iload_n 3 dS_then_14 rfl rfl ?_
  refine a_callV (Q' := m_res (some (.null)) I J R) (as := [.int y]) (st := []) dS_then_15 ml11_189 rfl (Nat.le_of_ble_eq_true rfl) ly_1 rfl rfl (by decide) (by omega) (Nat.le_of_ble_eq_true rfl) rfl (Nat.le_refl _) (Nat.le_refl _) (c_Told_logAt0 hn hR hg0) (m_go ?_)
  show AW _ _ _ _ _ _ _ _ [.null] _ _ _ _
  refine a_astoreN (lv' := [(6, .null), (5, .null), (0, .ref 0), (1, .int x), (2, .int y), (3, .int z), (4, .int t)]) dS_then_18 (by decide) rfl ?_
  refine a_aloadN 1 dS_then_20 rfl ?_
  refine a_ifnullN (tgt := 40) dS_then_22 (by decide) ?_
  refine a_sipush (v := -1000) dS_then_40 (by decide) ?_
  exact a_iret dS_then_43 rfl ⟨rfl, KP.refl, (KF.refl hR)⟩
theorem q_S_then01 {S : Nat × (Nat → Int32)} {d n : Nat} {I : mI} {J : mJ} {R : mR} (hn : 122 ≤ n) (hR : m_fin R) {x y : Int32} {z t : Int32} {kg g : Nat} (hy : y = nI kg) (h0 : f_of x (I 3 0) = 0) (hlg1 : f_of y (I 3 2) = 1) (hkg : kg < 2) (hrog : R 32 kg = some g)  : AW S (d + 7) YS_then n n (qV I R (.int (-1000))) 0 [(0, .ref 0), (1, .int x), (2, .int y), (3, .int z), (4, .int t)] [] I J R n := by
  refine a_aload_n 0 dS_then_0 rfl rfl ?_
  refine a_geta (r := 1) dS_then_1 fl11_10 rfl ly_0 (by omega) (rf_0_0 hR) ?_
  refine a_iload_n 1 dS_then_4 rfl rfl ?_
  refine a_callV (Q' := m_res (some (.null)) I J R) (as := [.int x]) (st := []) dS_then_5 ml11_101 rfl (Nat.le_of_ble_eq_true rfl) ly_1 rfl rfl (by decide) (by omega) (Nat.le_of_ble_eq_true rfl) rfl (Nat.le_refl _) (Nat.le_refl _) (c_Told_officeAt0 hn hR h0) (m_go ?_)
  show AW _ _ _ _ _ _ _ _ [.null] _ _ _ _
  refine a_astoreN (lv' := [(5, .null), (0, .ref 0), (1, .int x), (2, .int y), (3, .int z), (4, .int t)]) dS_then_8 (by decide) rfl ?_
  refine a_aload_n 1 dS_then_10 rfl rfl ?_
  refine a_geta (r := 1) dS_then_11 fl11_10 rfl ly_0 (by omega) (rf_0_0 hR) ?_
  refine a_iload_n 3 dS_then_14 rfl rfl ?_
  refine a_callV (Q' := m_res (some (.ref g)) I J R) (as := [.int y]) (st := []) dS_then_15 ml11_189 rfl (Nat.le_of_ble_eq_true rfl) ly_1 rfl rfl (by decide) (by omega) (Nat.le_of_ble_eq_true rfl) rfl (Nat.le_refl _) (Nat.le_refl _) (by subst hy; exact c_Told_logAt1 hn hR hlg1 hkg hrog) (m_go ?_)
  show AW _ _ _ _ _ _ _ _ [.ref g] _ _ _ _
  refine a_astore (lv' := [(6, .ref g), (5, .null), (0, .ref 0), (1, .int x), (2, .int y), (3, .int z), (4, .int t)]) dS_then_18 (by decide) rfl ?_
  refine a_aloadN 1 dS_then_20 rfl ?_
  refine a_ifnullN (tgt := 40) dS_then_22 (by decide) ?_
  refine a_sipush (v := -1000) dS_then_40 (by decide) ?_
  exact a_iret dS_then_43 rfl ⟨rfl, KP.refl, (KF.refl hR)⟩
theorem q_S_then10 {S : Nat × (Nat → Int32)} {d n : Nat} {I : mI} {J : mJ} {R : mR} (hn : 122 ≤ n) (hR : m_fin R) {x y : Int32} {z t : Int32} {k o : Nat} (hx : x = nI k) (h1 : f_of x (I 3 0) = 1) (hk : k < 2) (hro : R 4 k = some o) (hg0 : f_of y (I 3 2) = 0)  : AW S (d + 7) YS_then n n (qV I R (.int (-1000))) 0 [(0, .ref 0), (1, .int x), (2, .int y), (3, .int z), (4, .int t)] [] I J R n := by
  refine a_aload_n 0 dS_then_0 rfl rfl ?_
  refine a_geta (r := 1) dS_then_1 fl11_10 rfl ly_0 (by omega) (rf_0_0 hR) ?_
  refine a_iload_n 1 dS_then_4 rfl rfl ?_
  refine a_callV (Q' := m_res (some (.ref o)) I J R) (as := [.int x]) (st := []) dS_then_5 ml11_101 rfl (Nat.le_of_ble_eq_true rfl) ly_1 rfl rfl (by decide) (by omega) (Nat.le_of_ble_eq_true rfl) rfl (Nat.le_refl _) (Nat.le_refl _) (by subst hx; exact c_Told_officeAt1 hn hR h1 hk hro) (m_go ?_)
  show AW _ _ _ _ _ _ _ _ [.ref o] _ _ _ _
  refine a_astore (lv' := [(5, .ref o), (0, .ref 0), (1, .int x), (2, .int y), (3, .int z), (4, .int t)]) dS_then_8 (by decide) rfl ?_
  refine a_aload_n 1 dS_then_10 rfl rfl ?_
  refine a_geta (r := 1) dS_then_11 fl11_10 rfl ly_0 (by omega) (rf_0_0 hR) ?_
  refine a_iload_n 3 dS_then_14 rfl rfl ?_
  refine a_callV (Q' := m_res (some (.null)) I J R) (as := [.int y]) (st := []) dS_then_15 ml11_189 rfl (Nat.le_of_ble_eq_true rfl) ly_1 rfl rfl (by decide) (by omega) (Nat.le_of_ble_eq_true rfl) rfl (Nat.le_refl _) (Nat.le_refl _) (c_Told_logAt0 hn hR hg0) (m_go ?_)
  show AW _ _ _ _ _ _ _ _ [.null] _ _ _ _
  refine a_astoreN (lv' := [(6, .null), (5, .ref o), (0, .ref 0), (1, .int x), (2, .int y), (3, .int z), (4, .int t)]) dS_then_18 (by decide) rfl ?_
  refine a_aload 1 dS_then_20 rfl ?_
  refine a_ifnull dS_then_22 ?_
  refine a_aloadN 0 dS_then_25 rfl ?_
  refine a_ifnullN (tgt := 40) dS_then_27 (by decide) ?_
  refine a_sipush (v := -1000) dS_then_40 (by decide) ?_
  exact a_iret dS_then_43 rfl ⟨rfl, KP.refl, (KF.refl hR)⟩
theorem q_S_fits1 {S : Nat × (Nat → Int32)} {d n : Nat} {I : mI} {J : mJ} {R : mR} (hn : 122 ≤ n) (hR : m_fin R) {o nh nl : Nat} (ho : o ∈ m_offs) (hr : offR R o) (hon : o + 8 < n) (hh : I o 0 = nI nh) (hnh : nh ≤ 6) (hl : I o 1 = nI nl) (hnl : nl ≤ 10) (hW : WFc I o nl) (hH : WFh (I (o + 2)) nl) {g c : Nat} (hg : g ∈ m_lgs) (hgr : lgR R g) (hgn : g + 2 < n) (hcc : I g 0 = nI c) (hc8 : c ≤ 8) (hF : ∀ k, k < c → I (g + 1) k = nI (hmN (I (g + 1)) k) ∧ hmN (I (g + 1)) k < 6) {k : Nat} (h1 : f_of (nI k) (I 3 0) = 1) (hk : k < 2) (hro : R 4 k = some o) {kg : Nat} (hlg1 : f_of (nI kg) (I 3 2) = 1) (hkg : kg < 2) (hrog : R 32 kg = some g) {z : Int32} (hai : aiV I g c nh = 0)  : AW S (d + 7) YS_fits n n (qV I R (.int (-2))) 0 [(0, .ref 0), (1, .int (nI k)), (2, .int (nI kg)), (3, .int z)] [] I J R n := by
  refine a_aload_n 0 dS_fits_0 rfl rfl ?_
  refine a_geta (r := 1) dS_fits_1 fl11_10 rfl ly_0 (by omega) (rf_0_0 hR) ?_
  refine a_iload_n 1 dS_fits_4 rfl rfl ?_
  refine a_callV (Q' := m_res (some (.ref o)) I J R) (as := [.int (nI k)]) (st := []) dS_fits_5 ml11_101 rfl (Nat.le_of_ble_eq_true rfl) ly_1 rfl rfl (by decide) (by omega) (Nat.le_of_ble_eq_true rfl) rfl (Nat.le_refl _) (Nat.le_refl _) (c_Told_officeAt1 hn hR h1 hk hro) (m_go ?_)
  show AW _ _ _ _ _ _ _ _ [.ref o] _ _ _ _
  refine a_astore (lv' := [(4, .ref o), (0, .ref 0), (1, .int (nI k)), (2, .int (nI kg)), (3, .int z)]) dS_fits_8 (by decide) rfl ?_
  refine a_aload_n 1 dS_fits_10 rfl rfl ?_
  refine a_geta (r := 1) dS_fits_11 fl11_10 rfl ly_0 (by omega) (rf_0_0 hR) ?_
  refine a_iload_n 3 dS_fits_14 rfl rfl ?_
  refine a_callV (Q' := m_res (some (.ref g)) I J R) (as := [.int (nI kg)]) (st := []) dS_fits_15 ml11_189 rfl (Nat.le_of_ble_eq_true rfl) ly_1 rfl rfl (by decide) (by omega) (Nat.le_of_ble_eq_true rfl) rfl (Nat.le_refl _) (Nat.le_refl _) (c_Told_logAt1 hn hR hlg1 hkg hrog) (m_go ?_)
  show AW _ _ _ _ _ _ _ _ [.ref g] _ _ _ _
  refine a_astore (lv' := [(5, .ref g), (4, .ref o), (0, .ref 0), (1, .int (nI k)), (2, .int (nI kg)), (3, .int z)]) dS_fits_18 (by decide) rfl ?_
  refine a_aload 1 dS_fits_20 rfl ?_
  refine a_ifnull dS_fits_22 ?_
  refine a_aload 0 dS_fits_25 rfl ?_
  refine a_ifnull dS_fits_27 ?_
  refine a_aload 0 dS_fits_30 rfl ?_
  refine a_aload 1 dS_fits_32 rfl ?_
  refine a_callV (Q' := m_res (some (.int (aiV I g c nh))) I J R) (as := [.ref o]) (st := []) dS_fits_34 ml11_196 rfl (Nat.le_of_ble_eq_true rfl) (lg_l0 hg) rfl rfl (by decide) (by omega) (Nat.le_of_ble_eq_true rfl) rfl (Nat.le_refl _) (Nat.le_refl _) (c_allIn hn hR ho hr hon hh hnh hl hnl hg hgr hgn hcc hc8 hF) (m_go ?_)
  show AW _ _ _ _ _ _ _ _ [.int (aiV I g c nh)] _ _ _ _
  refine a_if_ne (tgt := 43) dS_fits_37 (by decide) (fun c => False.elim (c hai)) (fun _ => ?_)
  refine a_bipush (v := -2) dS_fits_40 (by decide) ?_
  exact a_iret dS_fits_42 rfl ⟨rfl, KP.refl, (KF.refl hR)⟩
theorem q_S_fitsLo {S : Nat × (Nat → Int32)} {d n : Nat} {I : mI} {J : mJ} {R : mR} (hn : 122 ≤ n) (hR : m_fin R) {o nh nl : Nat} (ho : o ∈ m_offs) (hr : offR R o) (hon : o + 8 < n) (hh : I o 0 = nI nh) (hnh : nh ≤ 6) (hl : I o 1 = nI nl) (hnl : nl ≤ 10) (hW : WFc I o nl) (hH : WFh (I (o + 2)) nl) {g c : Nat} (hg : g ∈ m_lgs) (hgr : lgR R g) (hgn : g + 2 < n) (hcc : I g 0 = nI c) (hc8 : c ≤ 8) (hF : ∀ k, k < c → I (g + 1) k = nI (hmN (I (g + 1)) k) ∧ hmN (I (g + 1)) k < 6) {k : Nat} (h1 : f_of (nI k) (I 3 0) = 1) (hk : k < 2) (hro : R 4 k = some o) {kg : Nat} (hlg1 : f_of (nI kg) (I 3 2) = 1) (hkg : kg < 2) (hrog : R 32 kg = some g) (hai : ¬ aiV I g c nh = 0) {z : Int32} (hz : z < nI 10) {v : Int32} (hv : ∀ C M X md ls cm, RL I o nl C M (ftL I o g c nh nl 100) → anLo (g8 I (va_up (va_up (va_up (I 85) 0 (nI 0)) 4 (nI nh)) 0 (nI (ftL I o g c nh nl 100).length)) C M X md ls cm) (ftL I o g c nh nl 100).length nh (fun i => (ftL I o g c nh nl 100).getD i 0) z = v) : AW S (d + 7) YS_fits n n (qV I R (.int v)) 0 [(0, .ref 0), (1, .int (nI k)), (2, .int (nI kg)), (3, .int z)] [] I J R n := by
  refine a_aload_n 0 dS_fits_0 rfl rfl ?_
  refine a_geta (r := 1) dS_fits_1 fl11_10 rfl ly_0 (by omega) (rf_0_0 hR) ?_
  refine a_iload_n 1 dS_fits_4 rfl rfl ?_
  refine a_callV (Q' := m_res (some (.ref o)) I J R) (as := [.int (nI k)]) (st := []) dS_fits_5 ml11_101 rfl (Nat.le_of_ble_eq_true rfl) ly_1 rfl rfl (by decide) (by omega) (Nat.le_of_ble_eq_true rfl) rfl (Nat.le_refl _) (Nat.le_refl _) (c_Told_officeAt1 hn hR h1 hk hro) (m_go ?_)
  show AW _ _ _ _ _ _ _ _ [.ref o] _ _ _ _
  refine a_astore (lv' := [(4, .ref o), (0, .ref 0), (1, .int (nI k)), (2, .int (nI kg)), (3, .int z)]) dS_fits_8 (by decide) rfl ?_
  refine a_aload_n 1 dS_fits_10 rfl rfl ?_
  refine a_geta (r := 1) dS_fits_11 fl11_10 rfl ly_0 (by omega) (rf_0_0 hR) ?_
  refine a_iload_n 3 dS_fits_14 rfl rfl ?_
  refine a_callV (Q' := m_res (some (.ref g)) I J R) (as := [.int (nI kg)]) (st := []) dS_fits_15 ml11_189 rfl (Nat.le_of_ble_eq_true rfl) ly_1 rfl rfl (by decide) (by omega) (Nat.le_of_ble_eq_true rfl) rfl (Nat.le_refl _) (Nat.le_refl _) (c_Told_logAt1 hn hR hlg1 hkg hrog) (m_go ?_)
  show AW _ _ _ _ _ _ _ _ [.ref g] _ _ _ _
  refine a_astore (lv' := [(5, .ref g), (4, .ref o), (0, .ref 0), (1, .int (nI k)), (2, .int (nI kg)), (3, .int z)]) dS_fits_18 (by decide) rfl ?_
  refine a_aload 1 dS_fits_20 rfl ?_
  refine a_ifnull dS_fits_22 ?_
  refine a_aload 0 dS_fits_25 rfl ?_
  refine a_ifnull dS_fits_27 ?_
  refine a_aload 0 dS_fits_30 rfl ?_
  refine a_aload 1 dS_fits_32 rfl ?_
  refine a_callV (Q' := m_res (some (.int (aiV I g c nh))) I J R) (as := [.ref o]) (st := []) dS_fits_34 ml11_196 rfl (Nat.le_of_ble_eq_true rfl) (lg_l0 hg) rfl rfl (by decide) (by omega) (Nat.le_of_ble_eq_true rfl) rfl (Nat.le_refl _) (Nat.le_refl _) (c_allIn hn hR ho hr hon hh hnh hl hnl hg hgr hgn hcc hc8 hF) (m_go ?_)
  show AW _ _ _ _ _ _ _ _ [.int (aiV I g c nh)] _ _ _ _
  refine a_if_ne (tgt := 43) dS_fits_37 (by decide) (fun _ => ?_) (fun c => False.elim (hai c))
  refine a_aload_n 2 dS_fits_43 rfl rfl ?_
  refine a_geta (r := 85) dS_fits_44 fl11_58 rfl ly_0 (by omega) (rf_0_7 hR) ?_
  refine a_aload 1 dS_fits_47 rfl ?_
  refine a_aload 0 dS_fits_49 rfl ?_
  refine a_callV (Q' := fun v I2 J2 R2 => v = none ∧ J2 = J ∧ R2 = (m_up R 88 0 (some o)) ∧ ∃ C M X md ls cm, RL I o nl C M (ftL I o g c nh nl 100) ∧ I2 = (g8 I (va_up (va_up (va_up (I 85) 0 (nI 0)) 4 (nI nh)) 0 (nI (ftL I o g c nh nl 100).length)) C M X md ls cm)) (as := [.ref o, .ref g]) (st := []) dS_fits_51 ml11_200 rfl (Nat.le_of_ble_eq_true rfl) ly_85 rfl rfl (by decide) (by omega) (Nat.le_of_ble_eq_true rfl) rfl (Nat.le_refl _) (Nat.le_refl _) (b_find (S := S) (d := d + 3) hn hR ho hr hon hh hnh hl hnl hW hH hg hgr hgn hcc hc8 hF (fun C M X md ls cm h1 => ⟨rfl, rfl, rfl, C, M, X, md, ls, cm, h1, rfl⟩)) ?_
  intro v9 I9 J9 R9 ⟨e1, e2, e3, C, M, X, md, ls, cm, hRL, e5⟩
  subst e1
  rw [e2, e3, e5]
  have hR' := fin_88 (o := o) hR
  have h61 := ft_61 (I := I) (o := o) (g := g) (c := c) (nl := nl) hnh
  have hcd9 : ∀ i, i < (ftL I o g c nh nl 100).length → (g8 I (va_up (va_up (va_up (I 85) 0 (nI 0)) 4 (nI nh)) 0 (nI (ftL I o g c nh nl 100).length)) C M X md ls cm) 86 i = nI ((ftL I o g c nh nl 100).getD i 0) ∧ (ftL I o g c nh nl 100).getD i 0 < 100 := fun i hi => ⟨hRL.1 i hi, ft_lt 100 i hi⟩
  show AW _ _ _ _ _ _ _ _ [] _ _ _ _
  refine a_aload_n 2 dS_fits_54 rfl rfl ?_
  refine a_geta (r := 85) dS_fits_55 fl11_58 rfl ly_0 (by omega) (rf_0_7 hR') ?_
  refine a_iload_n 5 dS_fits_58 rfl rfl ?_
  refine a_callV (Q' := m_res (some (.int (anLo (g8 I (va_up (va_up (va_up (I 85) 0 (nI 0)) 4 (nI nh)) 0 (nI (ftL I o g c nh nl 100).length)) C M X md ls cm) (ftL I o g c nh nl 100).length nh (fun i => (ftL I o g c nh nl 100).getD i 0) z))) (g8 I (va_up (va_up (va_up (I 85) 0 (nI 0)) 4 (nI nh)) 0 (nI (ftL I o g c nh nl 100).length)) C M X md ls cm) J (m_up R 88 0 (some o))) (as := [.int z]) (st := []) dS_fits_59 ml11_204 rfl (Nat.le_of_ble_eq_true rfl) ly_85 rfl rfl (by decide) (by omega) (Nat.le_of_ble_eq_true rfl) rfl (Nat.le_refl _) (Nat.le_refl _) (c_ansLo (I := (g8 I (va_up (va_up (va_up (I 85) 0 (nI 0)) 4 (nI nh)) 0 (nI (ftL I o g c nh nl 100).length)) C M X md ls cm)) hn hR' (f := (ftL I o g c nh nl 100).length) (nh := nh) (cd := fun i => (ftL I o g c nh nl 100).getD i 0) rfl h61 rfl hnh hcd9 hz) (m_go ?_)
  show AW _ _ _ _ _ _ _ _ [.int (anLo (g8 I (va_up (va_up (va_up (I 85) 0 (nI 0)) 4 (nI nh)) 0 (nI (ftL I o g c nh nl 100).length)) C M X md ls cm) (ftL I o g c nh nl 100).length nh (fun i => (ftL I o g c nh nl 100).getD i 0) z)] _ _ _ _
  exact a_iret dS_fits_62 rfl ⟨by rw [hv C M X md ls cm hRL], KP.g8, (KF.up88 (KF.refl hR))⟩
theorem q_S_fitsHi {S : Nat × (Nat → Int32)} {d n : Nat} {I : mI} {J : mJ} {R : mR} (hn : 122 ≤ n) (hR : m_fin R) {o nh nl : Nat} (ho : o ∈ m_offs) (hr : offR R o) (hon : o + 8 < n) (hh : I o 0 = nI nh) (hnh : nh ≤ 6) (hl : I o 1 = nI nl) (hnl : nl ≤ 10) (hW : WFc I o nl) (hH : WFh (I (o + 2)) nl) {g c : Nat} (hg : g ∈ m_lgs) (hgr : lgR R g) (hgn : g + 2 < n) (hcc : I g 0 = nI c) (hc8 : c ≤ 8) (hF : ∀ k, k < c → I (g + 1) k = nI (hmN (I (g + 1)) k) ∧ hmN (I (g + 1)) k < 6) {k : Nat} (h1 : f_of (nI k) (I 3 0) = 1) (hk : k < 2) (hro : R 4 k = some o) {kg : Nat} (hlg1 : f_of (nI kg) (I 3 2) = 1) (hkg : kg < 2) (hrog : R 32 kg = some g) (hai : ¬ aiV I g c nh = 0) {w : Nat} (hw : 10 ≤ w) (hw2 : w < 2 ^ 31) : AW S (d + 7) YS_fits n n (qV I R (.int (if w - 10 < (ftL I o g c nh nl 100).length then nI ((ftL I o g c nh nl 100).getD (w - 10) 0) else -2))) 0 [(0, .ref 0), (1, .int (nI k)), (2, .int (nI kg)), (3, .int (nI w))] [] I J R n := by
  refine a_aload_n 0 dS_fits_0 rfl rfl ?_
  refine a_geta (r := 1) dS_fits_1 fl11_10 rfl ly_0 (by omega) (rf_0_0 hR) ?_
  refine a_iload_n 1 dS_fits_4 rfl rfl ?_
  refine a_callV (Q' := m_res (some (.ref o)) I J R) (as := [.int (nI k)]) (st := []) dS_fits_5 ml11_101 rfl (Nat.le_of_ble_eq_true rfl) ly_1 rfl rfl (by decide) (by omega) (Nat.le_of_ble_eq_true rfl) rfl (Nat.le_refl _) (Nat.le_refl _) (c_Told_officeAt1 hn hR h1 hk hro) (m_go ?_)
  show AW _ _ _ _ _ _ _ _ [.ref o] _ _ _ _
  refine a_astore (lv' := [(4, .ref o), (0, .ref 0), (1, .int (nI k)), (2, .int (nI kg)), (3, .int (nI w))]) dS_fits_8 (by decide) rfl ?_
  refine a_aload_n 1 dS_fits_10 rfl rfl ?_
  refine a_geta (r := 1) dS_fits_11 fl11_10 rfl ly_0 (by omega) (rf_0_0 hR) ?_
  refine a_iload_n 3 dS_fits_14 rfl rfl ?_
  refine a_callV (Q' := m_res (some (.ref g)) I J R) (as := [.int (nI kg)]) (st := []) dS_fits_15 ml11_189 rfl (Nat.le_of_ble_eq_true rfl) ly_1 rfl rfl (by decide) (by omega) (Nat.le_of_ble_eq_true rfl) rfl (Nat.le_refl _) (Nat.le_refl _) (c_Told_logAt1 hn hR hlg1 hkg hrog) (m_go ?_)
  show AW _ _ _ _ _ _ _ _ [.ref g] _ _ _ _
  refine a_astore (lv' := [(5, .ref g), (4, .ref o), (0, .ref 0), (1, .int (nI k)), (2, .int (nI kg)), (3, .int (nI w))]) dS_fits_18 (by decide) rfl ?_
  refine a_aload 1 dS_fits_20 rfl ?_
  refine a_ifnull dS_fits_22 ?_
  refine a_aload 0 dS_fits_25 rfl ?_
  refine a_ifnull dS_fits_27 ?_
  refine a_aload 0 dS_fits_30 rfl ?_
  refine a_aload 1 dS_fits_32 rfl ?_
  refine a_callV (Q' := m_res (some (.int (aiV I g c nh))) I J R) (as := [.ref o]) (st := []) dS_fits_34 ml11_196 rfl (Nat.le_of_ble_eq_true rfl) (lg_l0 hg) rfl rfl (by decide) (by omega) (Nat.le_of_ble_eq_true rfl) rfl (Nat.le_refl _) (Nat.le_refl _) (c_allIn hn hR ho hr hon hh hnh hl hnl hg hgr hgn hcc hc8 hF) (m_go ?_)
  show AW _ _ _ _ _ _ _ _ [.int (aiV I g c nh)] _ _ _ _
  refine a_if_ne (tgt := 43) dS_fits_37 (by decide) (fun _ => ?_) (fun c => False.elim (hai c))
  refine a_aload_n 2 dS_fits_43 rfl rfl ?_
  refine a_geta (r := 85) dS_fits_44 fl11_58 rfl ly_0 (by omega) (rf_0_7 hR) ?_
  refine a_aload 1 dS_fits_47 rfl ?_
  refine a_aload 0 dS_fits_49 rfl ?_
  refine a_callV (Q' := fun v I2 J2 R2 => v = none ∧ J2 = J ∧ R2 = (m_up R 88 0 (some o)) ∧ ∃ C M X md ls cm, RL I o nl C M (ftL I o g c nh nl 100) ∧ I2 = (g8 I (va_up (va_up (va_up (I 85) 0 (nI 0)) 4 (nI nh)) 0 (nI (ftL I o g c nh nl 100).length)) C M X md ls cm)) (as := [.ref o, .ref g]) (st := []) dS_fits_51 ml11_200 rfl (Nat.le_of_ble_eq_true rfl) ly_85 rfl rfl (by decide) (by omega) (Nat.le_of_ble_eq_true rfl) rfl (Nat.le_refl _) (Nat.le_refl _) (b_find (S := S) (d := d + 3) hn hR ho hr hon hh hnh hl hnl hW hH hg hgr hgn hcc hc8 hF (fun C M X md ls cm h1 => ⟨rfl, rfl, rfl, C, M, X, md, ls, cm, h1, rfl⟩)) ?_
  intro v9 I9 J9 R9 ⟨e1, e2, e3, C, M, X, md, ls, cm, hRL, e5⟩
  subst e1
  rw [e2, e3, e5]
  have hR' := fin_88 (o := o) hR
  have h61 := ft_61 (I := I) (o := o) (g := g) (c := c) (nl := nl) hnh
  have hcd9 : ∀ i, i < (ftL I o g c nh nl 100).length → (g8 I (va_up (va_up (va_up (I 85) 0 (nI 0)) 4 (nI nh)) 0 (nI (ftL I o g c nh nl 100).length)) C M X md ls cm) 86 i = nI ((ftL I o g c nh nl 100).getD i 0) ∧ (ftL I o g c nh nl 100).getD i 0 < 100 := fun i hi => ⟨hRL.1 i hi, ft_lt 100 i hi⟩
  show AW _ _ _ _ _ _ _ _ [] _ _ _ _
  refine a_aload_n 2 dS_fits_54 rfl rfl ?_
  refine a_geta (r := 85) dS_fits_55 fl11_58 rfl ly_0 (by omega) (rf_0_7 hR') ?_
  refine a_iload_n 5 dS_fits_58 rfl rfl ?_
  refine a_callV (Q' := m_res (some (.int (if w - 10 < (ftL I o g c nh nl 100).length then nI ((ftL I o g c nh nl 100).getD (w - 10) 0) else -2))) (g8 I (va_up (va_up (va_up (I 85) 0 (nI 0)) 4 (nI nh)) 0 (nI (ftL I o g c nh nl 100).length)) C M X md ls cm) J (m_up R 88 0 (some o))) (as := [.int (nI w)]) (st := []) dS_fits_59 ml11_204 rfl (Nat.le_of_ble_eq_true rfl) ly_85 rfl rfl (by decide) (by omega) (Nat.le_of_ble_eq_true rfl) rfl (Nat.le_refl _) (Nat.le_refl _) (c_ansHi (I := (g8 I (va_up (va_up (va_up (I 85) 0 (nI 0)) 4 (nI nh)) 0 (nI (ftL I o g c nh nl 100).length)) C M X md ls cm)) hn hR' (f := (ftL I o g c nh nl 100).length) (nh := nh) (cd := fun i => (ftL I o g c nh nl 100).getD i 0) rfl h61 rfl hnh hcd9 hw hw2) (m_go ?_)
  show AW _ _ _ _ _ _ _ _ [.int (if w - 10 < (ftL I o g c nh nl 100).length then nI ((ftL I o g c nh nl 100).getD (w - 10) 0) else -2)] _ _ _ _
  exact a_iret dS_fits_62 rfl ⟨rfl, KP.g8, (KF.up88 (KF.refl hR))⟩
theorem q_S_then1 {S : Nat × (Nat → Int32)} {d n : Nat} {I : mI} {J : mJ} {R : mR} (hn : 122 ≤ n) (hR : m_fin R) {o nh nl : Nat} (ho : o ∈ m_offs) (hr : offR R o) (hon : o + 8 < n) (hh : I o 0 = nI nh) (hnh : nh ≤ 6) (hl : I o 1 = nI nl) (hnl : nl ≤ 10) (hW : WFc I o nl) (hH : WFh (I (o + 2)) nl) {g c : Nat} (hg : g ∈ m_lgs) (hgr : lgR R g) (hgn : g + 2 < n) (hcc : I g 0 = nI c) (hc8 : c ≤ 8) (hF : ∀ k, k < c → I (g + 1) k = nI (hmN (I (g + 1)) k) ∧ hmN (I (g + 1)) k < 6) {k : Nat} (h1 : f_of (nI k) (I 3 0) = 1) (hk : k < 2) (hro : R 4 k = some o) {kg : Nat} (hlg1 : f_of (nI kg) (I 3 2) = 1) (hkg : kg < 2) (hrog : R 32 kg = some g) {z t : Int32} (ht : f_of t (nI nh) = 0)  : AW S (d + 7) YS_then n n (qV I R (.int (-1000))) 0 [(0, .ref 0), (1, .int (nI k)), (2, .int (nI kg)), (3, .int z), (4, .int t)] [] I J R n := by
  refine a_aload_n 0 dS_then_0 rfl rfl ?_
  refine a_geta (r := 1) dS_then_1 fl11_10 rfl ly_0 (by omega) (rf_0_0 hR) ?_
  refine a_iload_n 1 dS_then_4 rfl rfl ?_
  refine a_callV (Q' := m_res (some (.ref o)) I J R) (as := [.int (nI k)]) (st := []) dS_then_5 ml11_101 rfl (Nat.le_of_ble_eq_true rfl) ly_1 rfl rfl (by decide) (by omega) (Nat.le_of_ble_eq_true rfl) rfl (Nat.le_refl _) (Nat.le_refl _) (c_Told_officeAt1 hn hR h1 hk hro) (m_go ?_)
  show AW _ _ _ _ _ _ _ _ [.ref o] _ _ _ _
  refine a_astore (lv' := [(5, .ref o), (0, .ref 0), (1, .int (nI k)), (2, .int (nI kg)), (3, .int z), (4, .int t)]) dS_then_8 (by decide) rfl ?_
  refine a_aload_n 1 dS_then_10 rfl rfl ?_
  refine a_geta (r := 1) dS_then_11 fl11_10 rfl ly_0 (by omega) (rf_0_0 hR) ?_
  refine a_iload_n 3 dS_then_14 rfl rfl ?_
  refine a_callV (Q' := m_res (some (.ref g)) I J R) (as := [.int (nI kg)]) (st := []) dS_then_15 ml11_189 rfl (Nat.le_of_ble_eq_true rfl) ly_1 rfl rfl (by decide) (by omega) (Nat.le_of_ble_eq_true rfl) rfl (Nat.le_refl _) (Nat.le_refl _) (c_Told_logAt1 hn hR hlg1 hkg hrog) (m_go ?_)
  show AW _ _ _ _ _ _ _ _ [.ref g] _ _ _ _
  refine a_astore (lv' := [(6, .ref g), (5, .ref o), (0, .ref 0), (1, .int (nI k)), (2, .int (nI kg)), (3, .int z), (4, .int t)]) dS_then_18 (by decide) rfl ?_
  refine a_aload 1 dS_then_20 rfl ?_
  refine a_ifnull dS_then_22 ?_
  refine a_aload 0 dS_then_25 rfl ?_
  refine a_ifnull dS_then_27 ?_
  refine a_aload 1 dS_then_30 rfl ?_
  refine a_iload 6 dS_then_32 rfl ?_
  refine a_callV (Q' := m_res (some (.int (f_of t (nI nh)))) I J R) (as := [.int t]) (st := []) dS_then_34 ml11_135 rfl (Nat.le_of_ble_eq_true rfl) (of_l0 ho) rfl rfl (by decide) (by omega) (Nat.le_of_ble_eq_true rfl) rfl (Nat.le_refl _) (Nat.le_refl _) (by have h := c_Office_hasHouse (S := S) (d := d + 6) (n := n) (J := J) (R := R) (I := I) (h := t) ho hr hon; rw [hh] at h; exact h) (m_go ?_)
  show AW _ _ _ _ _ _ _ _ [.int (f_of t (nI nh))] _ _ _ _
  refine a_if_ne (tgt := 44) dS_then_37 (by decide) (fun c => False.elim (c ht)) (fun _ => ?_)
  refine a_sipush (v := -1000) dS_then_40 (by decide) ?_
  exact a_iret dS_then_43 rfl ⟨rfl, KP.refl, (KF.refl hR)⟩
theorem q_S_then2 {S : Nat × (Nat → Int32)} {d n : Nat} {I : mI} {J : mJ} {R : mR} (hn : 122 ≤ n) (hR : m_fin R) {o nh nl : Nat} (ho : o ∈ m_offs) (hr : offR R o) (hon : o + 8 < n) (hh : I o 0 = nI nh) (hnh : nh ≤ 6) (hl : I o 1 = nI nl) (hnl : nl ≤ 10) (hW : WFc I o nl) (hH : WFh (I (o + 2)) nl) {g c : Nat} (hg : g ∈ m_lgs) (hgr : lgR R g) (hgn : g + 2 < n) (hcc : I g 0 = nI c) (hc8 : c ≤ 8) (hF : ∀ k, k < c → I (g + 1) k = nI (hmN (I (g + 1)) k) ∧ hmN (I (g + 1)) k < 6) {k : Nat} (h1 : f_of (nI k) (I 3 0) = 1) (hk : k < 2) (hro : R 4 k = some o) {kg : Nat} (hlg1 : f_of (nI kg) (I 3 2) = 1) (hkg : kg < 2) (hrog : R 32 kg = some g) {z : Int32} {h : Nat} (hh6 : h < nh) (hz : z < 0 ∨ nI (ftL I o g c nh nl 100).length ≤ z) : AW S (d + 7) YS_then n n (qV I R (.int (-1000))) 0 [(0, .ref 0), (1, .int (nI k)), (2, .int (nI kg)), (3, .int z), (4, .int (nI h))] [] I J R n := by
  refine a_aload_n 0 dS_then_0 rfl rfl ?_
  refine a_geta (r := 1) dS_then_1 fl11_10 rfl ly_0 (by omega) (rf_0_0 hR) ?_
  refine a_iload_n 1 dS_then_4 rfl rfl ?_
  refine a_callV (Q' := m_res (some (.ref o)) I J R) (as := [.int (nI k)]) (st := []) dS_then_5 ml11_101 rfl (Nat.le_of_ble_eq_true rfl) ly_1 rfl rfl (by decide) (by omega) (Nat.le_of_ble_eq_true rfl) rfl (Nat.le_refl _) (Nat.le_refl _) (c_Told_officeAt1 hn hR h1 hk hro) (m_go ?_)
  show AW _ _ _ _ _ _ _ _ [.ref o] _ _ _ _
  refine a_astore (lv' := [(5, .ref o), (0, .ref 0), (1, .int (nI k)), (2, .int (nI kg)), (3, .int z), (4, .int (nI h))]) dS_then_8 (by decide) rfl ?_
  refine a_aload_n 1 dS_then_10 rfl rfl ?_
  refine a_geta (r := 1) dS_then_11 fl11_10 rfl ly_0 (by omega) (rf_0_0 hR) ?_
  refine a_iload_n 3 dS_then_14 rfl rfl ?_
  refine a_callV (Q' := m_res (some (.ref g)) I J R) (as := [.int (nI kg)]) (st := []) dS_then_15 ml11_189 rfl (Nat.le_of_ble_eq_true rfl) ly_1 rfl rfl (by decide) (by omega) (Nat.le_of_ble_eq_true rfl) rfl (Nat.le_refl _) (Nat.le_refl _) (c_Told_logAt1 hn hR hlg1 hkg hrog) (m_go ?_)
  show AW _ _ _ _ _ _ _ _ [.ref g] _ _ _ _
  refine a_astore (lv' := [(6, .ref g), (5, .ref o), (0, .ref 0), (1, .int (nI k)), (2, .int (nI kg)), (3, .int z), (4, .int (nI h))]) dS_then_18 (by decide) rfl ?_
  refine a_aload 1 dS_then_20 rfl ?_
  refine a_ifnull dS_then_22 ?_
  refine a_aload 0 dS_then_25 rfl ?_
  refine a_ifnull dS_then_27 ?_
  refine a_aload 1 dS_then_30 rfl ?_
  refine a_iload 6 dS_then_32 rfl ?_
  refine a_callV (Q' := m_res (some (.int (f_of (nI h) (nI nh)))) I J R) (as := [.int (nI h)]) (st := []) dS_then_34 ml11_135 rfl (Nat.le_of_ble_eq_true rfl) (of_l0 ho) rfl rfl (by decide) (by omega) (Nat.le_of_ble_eq_true rfl) rfl (Nat.le_refl _) (Nat.le_refl _) (by have h := c_Office_hasHouse (S := S) (d := d + 6) (n := n) (J := J) (R := R) (I := I) (h := (nI h)) ho hr hon; rw [hh] at h; exact h) (m_go ?_)
  show AW _ _ _ _ _ _ _ _ [.int (f_of (nI h) (nI nh))] _ _ _ _
  refine a_if_ne (tgt := 44) dS_then_37 (by decide) (fun _ => ?_) (fun c => False.elim (absurd c (by rw [f_of_n (by omega) hh6]; decide)))
  refine a_aload_n 2 dS_then_44 rfl rfl ?_
  refine a_geta (r := 85) dS_then_45 fl11_58 rfl ly_0 (by omega) (rf_0_7 hR) ?_
  refine a_aload 1 dS_then_48 rfl ?_
  refine a_aload 0 dS_then_50 rfl ?_
  refine a_callV (Q' := fun v I2 J2 R2 => v = none ∧ J2 = J ∧ R2 = (m_up R 88 0 (some o)) ∧ ∃ C M X md ls cm, RL I o nl C M (ftL I o g c nh nl 100) ∧ I2 = (g8 I (va_up (va_up (va_up (I 85) 0 (nI 0)) 4 (nI nh)) 0 (nI (ftL I o g c nh nl 100).length)) C M X md ls cm)) (as := [.ref o, .ref g]) (st := []) dS_then_52 ml11_200 rfl (Nat.le_of_ble_eq_true rfl) ly_85 rfl rfl (by decide) (by omega) (Nat.le_of_ble_eq_true rfl) rfl (Nat.le_refl _) (Nat.le_refl _) (b_find (S := S) (d := d + 3) hn hR ho hr hon hh hnh hl hnl hW hH hg hgr hgn hcc hc8 hF (fun C M X md ls cm h1 => ⟨rfl, rfl, rfl, C, M, X, md, ls, cm, h1, rfl⟩)) ?_
  intro v9 I9 J9 R9 ⟨e1, e2, e3, C, M, X, md, ls, cm, hRL, e5⟩
  subst e1
  rw [e2, e3, e5]
  have hR' := fin_88 (o := o) hR
  have h61 := ft_61 (I := I) (o := o) (g := g) (c := c) (nl := nl) hnh
  have hcd9 : ∀ i, i < (ftL I o g c nh nl 100).length → (g8 I (va_up (va_up (va_up (I 85) 0 (nI 0)) 4 (nI nh)) 0 (nI (ftL I o g c nh nl 100).length)) C M X md ls cm) 86 i = nI ((ftL I o g c nh nl 100).getD i 0) ∧ (ftL I o g c nh nl 100).getD i 0 < 100 := fun i hi => ⟨hRL.1 i hi, ft_lt 100 i hi⟩
  show AW _ _ _ _ _ _ _ _ [] _ _ _ _
  refine a_iload_n 5 dS_then_55 rfl rfl ?_
  refine a_if_lt (tgt := 70) dS_then_56 (by decide) (fun c56 => ?_) (fun c56 => ?_)
  · refine a_sipush (v := -1000) dS_then_70 (by decide) ?_
    refine a_goto (tgt := 86) dS_then_73 (by decide) ?_
    exact a_iret dS_then_86 rfl ⟨rfl, KP.g8, (KF.up88 (KF.refl hR))⟩
  · refine a_iload_n 5 dS_then_59 rfl rfl ?_
    refine a_aload_n 2 dS_then_60 rfl rfl ?_
    refine a_geta (r := 85) dS_then_61 fl11_58 rfl ly_0 (by omega) (rf_0_7 hR') ?_
    refine a_geti dS_then_64 fl11_282 rfl ly_85 (by omega) ?_
    rw [show (g8 I (va_up (va_up (va_up (I 85) 0 (nI 0)) 4 (nI nh)) 0 (nI (ftL I o g c nh nl 100).length)) C M X md ls cm) 85 0 = (nI (ftL I o g c nh nl 100).length) from rfl]
    refine a_icmp_lt (tgt := 76) dS_then_67 (by decide) (fun c67 => ?_) (fun c67 => ?_)
    · exfalso
      rcases hz with h9 | h9
      · exact c56 h9
      · exact absurd c67 (Int32.not_lt.mpr h9)
    · refine a_sipush (v := -1000) dS_then_70 (by decide) ?_
      refine a_goto (tgt := 86) dS_then_73 (by decide) ?_
      exact a_iret dS_then_86 rfl ⟨rfl, KP.g8, (KF.up88 (KF.refl hR))⟩
theorem q_S_then3 {S : Nat × (Nat → Int32)} {d n : Nat} {I : mI} {J : mJ} {R : mR} (hn : 122 ≤ n) (hR : m_fin R) {o nh nl : Nat} (ho : o ∈ m_offs) (hr : offR R o) (hon : o + 8 < n) (hh : I o 0 = nI nh) (hnh : nh ≤ 6) (hl : I o 1 = nI nl) (hnl : nl ≤ 10) (hW : WFc I o nl) (hH : WFh (I (o + 2)) nl) {g c : Nat} (hg : g ∈ m_lgs) (hgr : lgR R g) (hgn : g + 2 < n) (hcc : I g 0 = nI c) (hc8 : c ≤ 8) (hF : ∀ k, k < c → I (g + 1) k = nI (hmN (I (g + 1)) k) ∧ hmN (I (g + 1)) k < 6) {k : Nat} (h1 : f_of (nI k) (I 3 0) = 1) (hk : k < 2) (hro : R 4 k = some o) {kg : Nat} (hlg1 : f_of (nI kg) (I 3 2) = 1) (hkg : kg < 2) (hrog : R 32 kg = some g) {i h : Nat} (hh6 : h < nh) (hi : i < (ftL I o g c nh nl 100).length) : AW S (d + 7) YS_then n n (qV I R (.int (moS I o nl ((ftL I o g c nh nl 100).getD i 0) h))) 0 [(0, .ref 0), (1, .int (nI k)), (2, .int (nI kg)), (3, .int (nI i)), (4, .int (nI h))] [] I J R n := by
  refine a_aload_n 0 dS_then_0 rfl rfl ?_
  refine a_geta (r := 1) dS_then_1 fl11_10 rfl ly_0 (by omega) (rf_0_0 hR) ?_
  refine a_iload_n 1 dS_then_4 rfl rfl ?_
  refine a_callV (Q' := m_res (some (.ref o)) I J R) (as := [.int (nI k)]) (st := []) dS_then_5 ml11_101 rfl (Nat.le_of_ble_eq_true rfl) ly_1 rfl rfl (by decide) (by omega) (Nat.le_of_ble_eq_true rfl) rfl (Nat.le_refl _) (Nat.le_refl _) (c_Told_officeAt1 hn hR h1 hk hro) (m_go ?_)
  show AW _ _ _ _ _ _ _ _ [.ref o] _ _ _ _
  refine a_astore (lv' := [(5, .ref o), (0, .ref 0), (1, .int (nI k)), (2, .int (nI kg)), (3, .int (nI i)), (4, .int (nI h))]) dS_then_8 (by decide) rfl ?_
  refine a_aload_n 1 dS_then_10 rfl rfl ?_
  refine a_geta (r := 1) dS_then_11 fl11_10 rfl ly_0 (by omega) (rf_0_0 hR) ?_
  refine a_iload_n 3 dS_then_14 rfl rfl ?_
  refine a_callV (Q' := m_res (some (.ref g)) I J R) (as := [.int (nI kg)]) (st := []) dS_then_15 ml11_189 rfl (Nat.le_of_ble_eq_true rfl) ly_1 rfl rfl (by decide) (by omega) (Nat.le_of_ble_eq_true rfl) rfl (Nat.le_refl _) (Nat.le_refl _) (c_Told_logAt1 hn hR hlg1 hkg hrog) (m_go ?_)
  show AW _ _ _ _ _ _ _ _ [.ref g] _ _ _ _
  refine a_astore (lv' := [(6, .ref g), (5, .ref o), (0, .ref 0), (1, .int (nI k)), (2, .int (nI kg)), (3, .int (nI i)), (4, .int (nI h))]) dS_then_18 (by decide) rfl ?_
  refine a_aload 1 dS_then_20 rfl ?_
  refine a_ifnull dS_then_22 ?_
  refine a_aload 0 dS_then_25 rfl ?_
  refine a_ifnull dS_then_27 ?_
  refine a_aload 1 dS_then_30 rfl ?_
  refine a_iload 6 dS_then_32 rfl ?_
  refine a_callV (Q' := m_res (some (.int (f_of (nI h) (nI nh)))) I J R) (as := [.int (nI h)]) (st := []) dS_then_34 ml11_135 rfl (Nat.le_of_ble_eq_true rfl) (of_l0 ho) rfl rfl (by decide) (by omega) (Nat.le_of_ble_eq_true rfl) rfl (Nat.le_refl _) (Nat.le_refl _) (by have h := c_Office_hasHouse (S := S) (d := d + 6) (n := n) (J := J) (R := R) (I := I) (h := (nI h)) ho hr hon; rw [hh] at h; exact h) (m_go ?_)
  show AW _ _ _ _ _ _ _ _ [.int (f_of (nI h) (nI nh))] _ _ _ _
  refine a_if_ne (tgt := 44) dS_then_37 (by decide) (fun _ => ?_) (fun c => False.elim (absurd c (by rw [f_of_n (by omega) hh6]; decide)))
  refine a_aload_n 2 dS_then_44 rfl rfl ?_
  refine a_geta (r := 85) dS_then_45 fl11_58 rfl ly_0 (by omega) (rf_0_7 hR) ?_
  refine a_aload 1 dS_then_48 rfl ?_
  refine a_aload 0 dS_then_50 rfl ?_
  refine a_callV (Q' := fun v I2 J2 R2 => v = none ∧ J2 = J ∧ R2 = (m_up R 88 0 (some o)) ∧ ∃ C M X md ls cm, RL I o nl C M (ftL I o g c nh nl 100) ∧ I2 = (g8 I (va_up (va_up (va_up (I 85) 0 (nI 0)) 4 (nI nh)) 0 (nI (ftL I o g c nh nl 100).length)) C M X md ls cm)) (as := [.ref o, .ref g]) (st := []) dS_then_52 ml11_200 rfl (Nat.le_of_ble_eq_true rfl) ly_85 rfl rfl (by decide) (by omega) (Nat.le_of_ble_eq_true rfl) rfl (Nat.le_refl _) (Nat.le_refl _) (b_find (S := S) (d := d + 3) hn hR ho hr hon hh hnh hl hnl hW hH hg hgr hgn hcc hc8 hF (fun C M X md ls cm h1 => ⟨rfl, rfl, rfl, C, M, X, md, ls, cm, h1, rfl⟩)) ?_
  intro v9 I9 J9 R9 ⟨e1, e2, e3, C, M, X, md, ls, cm, hRL, e5⟩
  subst e1
  rw [e2, e3, e5]
  have hR' := fin_88 (o := o) hR
  have h61 := ft_61 (I := I) (o := o) (g := g) (c := c) (nl := nl) hnh
  have hcd9 : ∀ i, i < (ftL I o g c nh nl 100).length → (g8 I (va_up (va_up (va_up (I 85) 0 (nI 0)) 4 (nI nh)) 0 (nI (ftL I o g c nh nl 100).length)) C M X md ls cm) 86 i = nI ((ftL I o g c nh nl 100).getD i 0) ∧ (ftL I o g c nh nl 100).getD i 0 < 100 := fun i hi => ⟨hRL.1 i hi, ft_lt 100 i hi⟩
  show AW _ _ _ _ _ _ _ _ [] _ _ _ _
  refine a_iload_n 5 dS_then_55 rfl rfl ?_
  refine a_if_lt (tgt := 70) dS_then_56 (by decide) (fun c => False.elim (nI_pos (by omega) c)) (fun _ => ?_)
  refine a_iload_n 5 dS_then_59 rfl rfl ?_
  refine a_aload_n 2 dS_then_60 rfl rfl ?_
  refine a_geta (r := 85) dS_then_61 fl11_58 rfl ly_0 (by omega) (rf_0_7 hR') ?_
  refine a_geti dS_then_64 fl11_282 rfl ly_85 (by omega) ?_
  rw [show (g8 I (va_up (va_up (va_up (I 85) 0 (nI 0)) 4 (nI nh)) 0 (nI (ftL I o g c nh nl 100).length)) C M X md ls cm) 85 0 = (nI (ftL I o g c nh nl 100).length) from rfl]
  refine a_icmp_ltN (tgt := 76) dS_then_67 (by decide) (by omega) (by omega) (fun _ => ?_) (fun c => False.elim (by omega))
  refine a_aload_n 2 dS_then_76 rfl rfl ?_
  refine a_geta (r := 85) dS_then_77 fl11_58 rfl ly_0 (by omega) (rf_0_7 hR') ?_
  refine a_iload_n 5 dS_then_80 rfl rfl ?_
  refine a_iload 6 dS_then_81 rfl ?_
  refine a_callV (Q' := m_res (some (.int (moS I o nl ((ftL I o g c nh nl 100).getD i 0) h))) (g8 I (va_up (va_up (va_up (I 85) 0 (nI 0)) 4 (nI nh)) 0 (nI (ftL I o g c nh nl 100).length)) C M X md ls cm) J (m_up R 88 0 (some o))) (as := [.int (nI i), .int (nI h)]) (st := []) dS_then_83 ml11_283 rfl (Nat.le_of_ble_eq_true rfl) ly_85 rfl rfl (by decide) (by omega) (Nat.le_of_ble_eq_true rfl) rfl (Nat.le_refl _) (Nat.le_refl _) (by have h9 := c_Slips_moodOf (S := S) (d := d + 6) (n := n) (J := J) (R := (m_up R 88 0 (some o))) (I := (g8 I (va_up (va_up (va_up (I 85) 0 (nI 0)) 4 (nI nh)) 0 (nI (ftL I o g c nh nl 100).length)) C M X md ls cm)) (a := i) (h := h) hn hR' (by omega) (by omega); rw [show (g8 I (va_up (va_up (va_up (I 85) 0 (nI 0)) 4 (nI nh)) 0 (nI (ftL I o g c nh nl 100).length)) C M X md ls cm) 87 (6 * i + h) = moS I o nl ((ftL I o g c nh nl 100).getD i 0) h from hRL.2 i hi h (by omega)] at h9; exact h9) (m_go ?_)
  show AW _ _ _ _ _ _ _ _ [.int (moS I o nl ((ftL I o g c nh nl 100).getD i 0) h)] _ _ _ _
  exact a_iret dS_then_86 rfl ⟨rfl, KP.g8, (KF.up88 (KF.refl hR))⟩
