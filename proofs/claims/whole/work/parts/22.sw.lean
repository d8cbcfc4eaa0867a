section MSw
variable {S : Nat × (Nat → Int32)} {d : Nat} {Y : mY} {n0 nf : Nat} {Q : Option Value → mI → mJ → mR → Prop} {pc : Nat} {lv : List (Nat × Value)} {st : List Value} {I : mI} {J : mJ} {R : mR} {n : Nat}
/-- a switch, at a number that is known; outside -/
theorem a_tab {x c : Int32} {dflt lo hi : Int} {offs : Array Int} {len : Nat} {off : Int} {tgt : Nat} (hd : decode Y.2.1 pc = .ok (.tableswitch dflt lo hi offs, len)) (he : x = c) (h1 : ¬ c.toInt < lo) (h2 : ¬ hi < c.toInt) (ho : offs[(c.toInt - lo).toNat]? = some off) (ht : (pc : Int) + off = (tgt : Int)) (k : AW S d Y n0 nf Q tgt lv st I J R n) : AW S d Y n0 nf Q pc lv (.int x :: st) I J R n := by
  subst he
  exact a_tableIn hd h1 h2 ho ht k
end MSw
theorem sw_0 (x : Int32) (hi : Nat) (hh : hi < 2 ^ 31) : (x.toInt < 0 ∨ (hi : Int) < x.toInt) ∨ ∃ c, c ≤ hi ∧ x = nI c := by
  by_cases h : x < 0
  · exact Or.inl (Or.inl (by simpa using Int32.lt_iff_toInt_lt.mp h))
  · obtain ⟨j, hj, rfl⟩ := nI_of h
    by_cases h2 : j ≤ hi
    · exact Or.inr ⟨j, h2, rfl⟩
    · refine Or.inl (Or.inr ?_)
      rw [nI_toInt hj]
      omega
/-- a number below 0, or a Nat -/
theorem nI_or (x : Int32) : x < 0 ∨ ∃ w, w < 2 ^ 31 ∧ x = nI w := by
  by_cases h : x < 0
  · exact Or.inl h
  · exact Or.inr (nI_of h)
def f_of (h c : Int32) : Int32 := if h < 0 then 0 else if c ≤ h then 0 else 1
theorem f_of_01 (h c : Int32) : f_of h c = 0 ∨ f_of h c = 1 := by unfold f_of; split; exact Or.inl rfl; split; exact Or.inl rfl; exact Or.inr rfl
theorem f_of_n {j m : Nat} (hm : m < 2 ^ 31) (h : j < m) : f_of (nI j) (nI m) = 1 := by
  unfold f_of
  rw [if_neg (nI_pos (by omega)), if_neg (nI_ge h hm)]
theorem f_of_1 {x : Int32} {m : Nat} (hm : m < 2 ^ 31) (h : f_of x (nI m) = 1) : ∃ j, j < m ∧ x = nI j := by
  unfold f_of at h
  split at h
  · cases h
  · rename_i h0
    split at h
    · cases h
    · rename_i h1
      obtain ⟨j, hj, rfl⟩ := nI_of h0
      exact ⟨j, Nat.not_le.mp (fun c => h1 (nI_le c hj)), rfl⟩
/-- the reference's in(x, 0, m - 1) and the class's 0 <= x < m are one -/
theorem f_in_of {x : Int32} {m : Nat} (hm : m < 2 ^ 31) : f_in x 0 (nI m - 1) = f_of x (nI m) := by
  unfold f_in f_of
  by_cases h0 : x < 0
  · rw [if_pos h0, if_pos h0]
  · rw [if_neg h0, if_neg h0]
    obtain ⟨j, hj, rfl⟩ := nI_of h0
    cases m with
    | zero =>
      have e : nI 0 - 1 = (-1 : Int32) := rfl
      rw [e, if_pos, if_pos]
      · exact nI_le (Nat.zero_le _) hj
      · apply Int32.lt_iff_toInt_lt.mpr
        rw [nI_toInt hj]
        have e : (-1 : Int32).toInt = -1 := rfl
        omega
    | succ m =>
      rw [nI_pred]
      by_cases h1 : m < j
      · rw [if_pos (nI_lt h1 hj), if_pos (nI_le (by omega) hj)]
      · rw [if_neg (nI_nlt (by omega) (by omega)), if_neg (nI_ge (by omega) hm)]
