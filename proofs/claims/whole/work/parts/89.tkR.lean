theorem by_all {P : Int32 → Prop} (h : ∀ k, k < 256 → P (Int8.toInt32 (Int8.ofNat k))) {x : Int32} (hx : x.toInt8.toInt32 = x) : P x := by
  rw [← hx]
  have e : x.toInt8 = Int8.ofNat x.toInt8.toBitVec.toNat := by
    apply Int8.toBitVec_inj.mp
    show x.toInt8.toBitVec = BitVec.ofNat 8 x.toInt8.toBitVec.toNat
    rw [BitVec.ofNat_toNat]
    simp
  rw [e]
  exact h _ x.toInt8.toBitVec.isLt
theorem sg_10 {x : Int32} (hx : x.toInt8.toInt32 = x) : x &&& nI 255 = nI 10 ↔ x = nI 10 := by_all (P := fun x => x &&& nI 255 = nI 10 ↔ x = nI 10) (by decide +kernel) hx
theorem sg_32 {x : Int32} (hx : x.toInt8.toInt32 = x) : x &&& nI 255 = nI 32 ↔ x = nI 32 := by_all (P := fun x => x &&& nI 255 = nI 32 ↔ x = nI 32) (by decide +kernel) hx
theorem sg_59 {x : Int32} (hx : x.toInt8.toInt32 = x) : x &&& nI 255 = nI 59 ↔ x = nI 59 := by_all (P := fun x => x &&& nI 255 = nI 59 ↔ x = nI 59) (by decide +kernel) hx
theorem sg_sm {x : Int32} (hx : x.toInt8.toInt32 = x) : f_in (x &&& nI 255) (nI 97) (nI 122) = f_in x (nI 97) (nI 122) := by_all (P := fun x => f_in (x &&& nI 255) (nI 97) (nI 122) = f_in x (nI 97) (nI 122)) (by decide +kernel) hx
theorem sg_dg {x : Int32} (hx : x.toInt8.toInt32 = x) : f_in (x &&& nI 255) (nI 48) (nI 57) = f_in x (nI 48) (nI 57) := by_all (P := fun x => f_in (x &&& nI 255) (nI 48) (nI 57) = f_in x (nI 48) (nI 57)) (by decide +kernel) hx
theorem sg_0 {x : Int32} (hx : x.toInt8.toInt32 = x) : ¬ (x &&& nI 255) < 0 := by_all (P := fun x => ¬ (x &&& nI 255) < 0) (by decide +kernel) hx
theorem sg_n {x : Int32} (hx : x.toInt8.toInt32 = x) : ¬ x < 0 → x &&& nI 255 = x := by_all (P := fun x => ¬ x < 0 → x &&& nI 255 = x) (by decide +kernel) hx
/-- what is seen -/
def svR (T : Nat → Int32) (len p : Nat) : Int32 := if p < len then T p &&& nI 255 else -1
theorem c_M_see {S : Nat × (Nat → Int32)} {d n : Nat} {I : mI} {J : mJ} {R : mR} (hn : 122 ≤ n) (hR : m_fin R) {F : Nat → Int32} {len : Nat} (hlen : F 10 = nI len) (hl6 : len ≤ 600) {p : Nat} (hp : p ≤ len)  : RUN S d YM_see [.ref 95] (m_row I 95 (va_up F 9 (nI p))) J R n (some (.int (svR (I 96) len p))) (m_row I 95 (va_up F 9 (nI p))) J R n := by
  show AW S _ YM_see n n _ 0 [(0, .ref 95)] [] (m_row I 95 (va_up F 9 (nI p))) J R n
  refine a_aload_n 0 dM_see_0 rfl rfl ?_
  refine a_geti dM_see_1 fl12_110 rfl ly_95 (by omega) ?_
  rw [show (m_row I 95 (va_up F 9 (nI p))) 95 9 = (nI p) from rfl]
  refine a_aload_n 0 dM_see_4 rfl rfl ?_
  refine a_geti dM_see_5 fl12_113 rfl ly_95 (by omega) ?_
  rw [show (m_row I 95 (va_up F 9 (nI p))) 95 10 = (nI len) from hlen]
  refine a_icmp_geN (tgt := 27) dM_see_8 (by decide) (by omega) (by omega) (fun c8 => ?_) (fun c8 => ?_)
  · refine a_iconst (v := -1) dM_see_27 (by decide) ?_
    exact a_iret dM_see_28 rfl ⟨by unfold svR; rw [if_neg (show ¬ p < len by omega)], rfl, rfl, rfl⟩
  · refine a_aload_n 0 dM_see_11 rfl rfl ?_
    refine a_geta (r := 96) dM_see_12 fl12_7 rfl ly_95 (by omega) (rf_95_1 hR) ?_
    refine a_aload_n 0 dM_see_15 rfl rfl ?_
    refine a_geti dM_see_16 fl12_110 rfl ly_95 (by omega) ?_
    rw [show (m_row I 95 (va_up F 9 (nI p))) 95 9 = (nI p) from rfl]
    refine a_baldN (a := p) dM_see_19 ly_96 (by omega) (by omega) (by decide) (fun hb19 => ?_)
    rw [show (m_row I 95 (va_up F 9 (nI p))) 96 p = I 96 p from rfl]
    refine a_sipushN (a := 255) dM_see_20 (by decide) ?_
    refine a_iand dM_see_23 ?_
    refine a_goto (tgt := 28) dM_see_24 (by decide) ?_
    exact a_iret dM_see_28 rfl ⟨by unfold svR; rw [if_pos (show p < len by omega)], rfl, rfl, rfl⟩
