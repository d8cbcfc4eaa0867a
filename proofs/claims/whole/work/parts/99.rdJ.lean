theorem r_end0 {S : Nat × (Nat → Int32)} {d n : Nat} {I : mI} {J : mJ} {R : mR} (hn : 122 ≤ n) (hR : m_fin R) {K N P F : Nat → Int32} {k0 k1 nt : Nat} (hnt : nt ≤ 3) (h15 : F 15 = nI nt) {x : Int32} {Q : Option Value → mI → mJ → mR → Prop} (hB : (nfF I (4 * k0 + k1) 0 nt N P F) 3 = 0 → True) (hQ1 : ¬ (nfF I (4 * k0 + k1) 0 nt N P F) 3 = 0 → Q (some (.int 1)) (rM I (nfF I (4 * k0 + k1) 0 nt N P F) K N P) J R) (hQ2 : (nfF I (4 * k0 + k1) 0 nt N P F) 3 = 0 → Q (some (.int 1)) (rM (m_up I 41 0 (N 0)) F K N P) J R) : AW S (d + 7) YReader_readLine n n Q 102 [(4, .int (nI 1)), (0, .ref 40), (1, .int x), (2, .int (nI 0)), (3, .ref (1000010 + 9))] [] (m_row (m_row (m_row (m_row I 40 F) 57 K) 58 N) 59 P) J R n := by
  refine a_aload_n 1 dReader_readLine_102 rfl rfl ?_
  refine a_iload_n 3 dReader_readLine_103 rfl rfl ?_
  refine a_callV (Q' := m_res none (rM I (nfF I (4 * k0 + k1) 0 nt N P F) K N P) J R) (as := [.int (nI 0)]) (st := []) dReader_readLine_104 ml7_146 rfl (Nat.le_of_ble_eq_true rfl) ly_40 rfl rfl (by decide) (by omega) (Nat.le_of_ble_eq_true rfl) rfl (Nat.le_refl _) (Nat.le_refl _) (c_noteFaults0 hn hR hnt h15) (m_go ?_)
  show AW _ _ _ _ _ _ _ _ [] _ _ _ _
  refine a_aload_n 1 dReader_readLine_107 rfl rfl ?_
  refine a_geti dReader_readLine_108 fl7_60 rfl ly_40 (by omega) ?_
  rw [show (rM I (nfF I (4 * k0 + k1) 0 nt N P F) K N P) 40 3 = (nfF I (4 * k0 + k1) 0 nt N P F) 3 from rfl]
  by_cases hf : (nfF I (4 * k0 + k1) 0 nt N P F) 3 = 0
  · have hB9 := hB hf
    have e9 := (nfF_0 hf).1
    refine a_mem (show rM I (nfF I (4 * k0 + k1) 0 nt N P F) K N P = rM I F K N P by rw [e9]) ?_
    refine a_if_ne (tgt := 119) dReader_readLine_111 (by decide) (fun c => False.elim (c hf)) (fun _ => ?_)
    refine a_aload_n 1 dReader_readLine_114 rfl rfl ?_
    refine a_iload_n 3 dReader_readLine_115 rfl rfl ?_
    refine a_callV (Q' := m_res none (rM (m_up I 41 0 (N 0)) F K N P) J R) (as := [.int (nI 0)]) (st := []) dReader_readLine_116 ml7_150 rfl (Nat.le_of_ble_eq_true rfl) ly_40 rfl rfl (by decide) (by omega) (Nat.le_of_ble_eq_true rfl) rfl (Nat.le_refl _) (Nat.le_refl _) (c_tell0 hn hR ) (m_go ?_)
    show AW _ _ _ _ _ _ _ _ [] _ _ _ _
    refine a_iconstN (a := 1) dReader_readLine_119 (by decide) ?_
    exact a_zret dReader_readLine_120 rfl (by rfl) (hQ2 hf)
  · refine a_if_ne (tgt := 119) dReader_readLine_111 (by decide) (fun _ => ?_) (fun c => False.elim (hf c))
    refine a_iconstN (a := 1) dReader_readLine_119 (by decide) ?_
    exact a_zret dReader_readLine_120 rfl (by rfl) (hQ1 hf)
theorem r_end1 {S : Nat × (Nat → Int32)} {d n : Nat} {I : mI} {J : mJ} {R : mR} (hn : 122 ≤ n) (hR : m_fin R) {K N P F : Nat → Int32} {k0 k1 nt : Nat} (hnt : nt ≤ 3) (h15 : F 15 = nI nt) {v0 : Nat} (hv0 : N 0 = nI v0) {x : Int32} {Q : Option Value → mI → mJ → mR → Prop} (hB : (nfF I (4 * k0 + k1) 1 nt N P F) 3 = 0 → v0 < 6) (hQ1 : ¬ (nfF I (4 * k0 + k1) 1 nt N P F) 3 = 0 → Q (some (.int 1)) (rM I (nfF I (4 * k0 + k1) 1 nt N P F) K N P) J R) (hQ2 : (nfF I (4 * k0 + k1) 1 nt N P F) 3 = 0 → Q (some (.int 1)) (rM (m_up I 42 v0 (N 1)) (va_up F 16 (if F 16 < nI v0 then nI v0 else F 16)) K N P) J R) : AW S (d + 7) YReader_readLine n n Q 102 [(4, .int (nI 2)), (0, .ref 40), (1, .int x), (2, .int (nI 1)), (3, .ref (1000010 + 14))] [] (m_row (m_row (m_row (m_row I 40 F) 57 K) 58 N) 59 P) J R n := by
  refine a_aload_n 1 dReader_readLine_102 rfl rfl ?_
  refine a_iload_n 3 dReader_readLine_103 rfl rfl ?_
  refine a_callV (Q' := m_res none (rM I (nfF I (4 * k0 + k1) 1 nt N P F) K N P) J R) (as := [.int (nI 1)]) (st := []) dReader_readLine_104 ml7_146 rfl (Nat.le_of_ble_eq_true rfl) ly_40 rfl rfl (by decide) (by omega) (Nat.le_of_ble_eq_true rfl) rfl (Nat.le_refl _) (Nat.le_refl _) (c_noteFaults1 hn hR hnt h15) (m_go ?_)
  show AW _ _ _ _ _ _ _ _ [] _ _ _ _
  refine a_aload_n 1 dReader_readLine_107 rfl rfl ?_
  refine a_geti dReader_readLine_108 fl7_60 rfl ly_40 (by omega) ?_
  rw [show (rM I (nfF I (4 * k0 + k1) 1 nt N P F) K N P) 40 3 = (nfF I (4 * k0 + k1) 1 nt N P F) 3 from rfl]
  by_cases hf : (nfF I (4 * k0 + k1) 1 nt N P F) 3 = 0
  · have hB9 := hB hf
    have e9 := (nfF_0 hf).1
    refine a_mem (show rM I (nfF I (4 * k0 + k1) 1 nt N P F) K N P = rM I F K N P by rw [e9]) ?_
    refine a_if_ne (tgt := 119) dReader_readLine_111 (by decide) (fun c => False.elim (c hf)) (fun _ => ?_)
    refine a_aload_n 1 dReader_readLine_114 rfl rfl ?_
    refine a_iload_n 3 dReader_readLine_115 rfl rfl ?_
    refine a_callV (Q' := m_res none (rM (m_up I 42 v0 (N 1)) (va_up F 16 (if F 16 < nI v0 then nI v0 else F 16)) K N P) J R) (as := [.int (nI 1)]) (st := []) dReader_readLine_116 ml7_150 rfl (Nat.le_of_ble_eq_true rfl) ly_40 rfl rfl (by decide) (by omega) (Nat.le_of_ble_eq_true rfl) rfl (Nat.le_refl _) (Nat.le_refl _) (c_tell1 hn hR hv0 hB9) (m_go ?_)
    show AW _ _ _ _ _ _ _ _ [] _ _ _ _
    refine a_iconstN (a := 1) dReader_readLine_119 (by decide) ?_
    exact a_zret dReader_readLine_120 rfl (by rfl) (hQ2 hf)
  · refine a_if_ne (tgt := 119) dReader_readLine_111 (by decide) (fun _ => ?_) (fun c => False.elim (hf c))
    refine a_iconstN (a := 1) dReader_readLine_119 (by decide) ?_
    exact a_zret dReader_readLine_120 rfl (by rfl) (hQ1 hf)
theorem r_end2 {S : Nat × (Nat → Int32)} {d n : Nat} {I : mI} {J : mJ} {R : mR} (hn : 122 ≤ n) (hR : m_fin R) {K N P F : Nat → Int32} {k0 k1 nt : Nat} (hnt : nt ≤ 3) (h15 : F 15 = nI nt) {l : Nat} (hk0 : K 0 = nI k0) (hk04 : k0 < 4) (hL : I 41 1 = nI l) {x : Int32} {Q : Option Value → mI → mJ → mR → Prop} (hB : (nfF I (4 * k0 + k1) 2 nt N P F) 3 = 0 → l < 10) (hQ1 : ¬ (nfF I (4 * k0 + k1) 2 nt N P F) 3 = 0 → Q (some (.int 1)) (rM I (nfF I (4 * k0 + k1) 2 nt N P F) K N P) J R) (hQ2 : (nfF I (4 * k0 + k1) 2 nt N P F) 3 = 0 → Q (some (.int 1)) (rM (adI I l (N 0) (nI k0) (N 1) (plV k0 (N 1))) (va_up F 16 (if F 16 < N 0 then N 0 else F 16)) K N P) J R) : AW S (d + 7) YReader_readLine n n Q 102 [(4, .int (nI 3)), (0, .ref 40), (1, .int x), (2, .int (nI 2)), (3, .ref (1000010 + 10))] [] (m_row (m_row (m_row (m_row I 40 F) 57 K) 58 N) 59 P) J R n := by
  refine a_aload_n 1 dReader_readLine_102 rfl rfl ?_
  refine a_iload_n 3 dReader_readLine_103 rfl rfl ?_
  refine a_callV (Q' := m_res none (rM I (nfF I (4 * k0 + k1) 2 nt N P F) K N P) J R) (as := [.int (nI 2)]) (st := []) dReader_readLine_104 ml7_146 rfl (Nat.le_of_ble_eq_true rfl) ly_40 rfl rfl (by decide) (by omega) (Nat.le_of_ble_eq_true rfl) rfl (Nat.le_refl _) (Nat.le_refl _) (c_noteFaults2 hn hR hnt h15) (m_go ?_)
  show AW _ _ _ _ _ _ _ _ [] _ _ _ _
  refine a_aload_n 1 dReader_readLine_107 rfl rfl ?_
  refine a_geti dReader_readLine_108 fl7_60 rfl ly_40 (by omega) ?_
  rw [show (rM I (nfF I (4 * k0 + k1) 2 nt N P F) K N P) 40 3 = (nfF I (4 * k0 + k1) 2 nt N P F) 3 from rfl]
  by_cases hf : (nfF I (4 * k0 + k1) 2 nt N P F) 3 = 0
  · have hB9 := hB hf
    have e9 := (nfF_0 hf).1
    refine a_mem (show rM I (nfF I (4 * k0 + k1) 2 nt N P F) K N P = rM I F K N P by rw [e9]) ?_
    refine a_if_ne (tgt := 119) dReader_readLine_111 (by decide) (fun c => False.elim (c hf)) (fun _ => ?_)
    refine a_aload_n 1 dReader_readLine_114 rfl rfl ?_
    refine a_iload_n 3 dReader_readLine_115 rfl rfl ?_
    refine a_callV (Q' := m_res none (rM (adI I l (N 0) (nI k0) (N 1) (plV k0 (N 1))) (va_up F 16 (if F 16 < N 0 then N 0 else F 16)) K N P) J R) (as := [.int (nI 2)]) (st := []) dReader_readLine_116 ml7_150 rfl (Nat.le_of_ble_eq_true rfl) ly_40 rfl rfl (by decide) (by omega) (Nat.le_of_ble_eq_true rfl) rfl (Nat.le_refl _) (Nat.le_refl _) (c_tell2 hn hR hk0 hk04 hL hB9) (m_go ?_)
    show AW _ _ _ _ _ _ _ _ [] _ _ _ _
    refine a_iconstN (a := 1) dReader_readLine_119 (by decide) ?_
    exact a_zret dReader_readLine_120 rfl (by rfl) (hQ2 hf)
  · refine a_if_ne (tgt := 119) dReader_readLine_111 (by decide) (fun _ => ?_) (fun c => False.elim (hf c))
    refine a_iconstN (a := 1) dReader_readLine_119 (by decide) ?_
    exact a_zret dReader_readLine_120 rfl (by rfl) (hQ1 hf)
theorem r_end3 {S : Nat × (Nat → Int32)} {d n : Nat} {I : mI} {J : mJ} {R : mR} (hn : 122 ≤ n) (hR : m_fin R) {K N P F : Nat → Int32} {k0 k1 nt : Nat} (hnt : nt ≤ 3) (h15 : F 15 = nI nt) (hk0 : K 0 = nI k0) (hk1 : K 1 = nI k1) (hk04 : k0 < 4) (hk14 : k1 < 4) {x : Int32} {Q : Option Value → mI → mJ → mR → Prop} (hB : (nfF I (4 * k0 + k1) 3 nt N P F) 3 = 0 → True) (hQ1 : ¬ (nfF I (4 * k0 + k1) 3 nt N P F) 3 = 0 → Q (some (.int 1)) (rM I (nfF I (4 * k0 + k1) 3 nt N P F) K N P) J R) (hQ2 : (nfF I (4 * k0 + k1) 3 nt N P F) 3 = 0 → Q (some (.int 1)) (rM (tlwI I (4 * k0 + k1) (N 0)) F K N P) J R) : AW S (d + 7) YReader_readLine n n Q 102 [(4, .int (nI 3)), (0, .ref 40), (1, .int x), (2, .int (nI 3)), (3, .ref (1000010 + 11))] [] (m_row (m_row (m_row (m_row I 40 F) 57 K) 58 N) 59 P) J R n := by
  refine a_aload_n 1 dReader_readLine_102 rfl rfl ?_
  refine a_iload_n 3 dReader_readLine_103 rfl rfl ?_
  refine a_callV (Q' := m_res none (rM I (nfF I (4 * k0 + k1) 3 nt N P F) K N P) J R) (as := [.int (nI 3)]) (st := []) dReader_readLine_104 ml7_146 rfl (Nat.le_of_ble_eq_true rfl) ly_40 rfl rfl (by decide) (by omega) (Nat.le_of_ble_eq_true rfl) rfl (Nat.le_refl _) (Nat.le_refl _) (c_noteFaults3 hn hR hk0 hk1 hk04 hk14 hnt h15) (m_go ?_)
  show AW _ _ _ _ _ _ _ _ [] _ _ _ _
  refine a_aload_n 1 dReader_readLine_107 rfl rfl ?_
  refine a_geti dReader_readLine_108 fl7_60 rfl ly_40 (by omega) ?_
  rw [show (rM I (nfF I (4 * k0 + k1) 3 nt N P F) K N P) 40 3 = (nfF I (4 * k0 + k1) 3 nt N P F) 3 from rfl]
  by_cases hf : (nfF I (4 * k0 + k1) 3 nt N P F) 3 = 0
  · have hB9 := hB hf
    have e9 := (nfF_0 hf).1
    refine a_mem (show rM I (nfF I (4 * k0 + k1) 3 nt N P F) K N P = rM I F K N P by rw [e9]) ?_
    refine a_if_ne (tgt := 119) dReader_readLine_111 (by decide) (fun c => False.elim (c hf)) (fun _ => ?_)
    refine a_aload_n 1 dReader_readLine_114 rfl rfl ?_
    refine a_iload_n 3 dReader_readLine_115 rfl rfl ?_
    refine a_callV (Q' := m_res none (rM (tlwI I (4 * k0 + k1) (N 0)) F K N P) J R) (as := [.int (nI 3)]) (st := []) dReader_readLine_116 ml7_150 rfl (Nat.le_of_ble_eq_true rfl) ly_40 rfl rfl (by decide) (by omega) (Nat.le_of_ble_eq_true rfl) rfl (Nat.le_refl _) (Nat.le_refl _) (c_tell3 hn hR hk0 hk1 hk04 hk14) (m_go ?_)
    show AW _ _ _ _ _ _ _ _ [] _ _ _ _
    refine a_iconstN (a := 1) dReader_readLine_119 (by decide) ?_
    exact a_zret dReader_readLine_120 rfl (by rfl) (hQ2 hf)
  · refine a_if_ne (tgt := 119) dReader_readLine_111 (by decide) (fun _ => ?_) (fun c => False.elim (hf c))
    refine a_iconstN (a := 1) dReader_readLine_119 (by decide) ?_
    exact a_zret dReader_readLine_120 rfl (by rfl) (hQ1 hf)
theorem r_end4 {S : Nat × (Nat → Int32)} {d n : Nat} {I : mI} {J : mJ} {R : mR} (hn : 122 ≤ n) (hR : m_fin R) {K N P F : Nat → Int32} {k0 k1 nt : Nat} (hnt : nt ≤ 3) (h15 : F 15 = nI nt) {v0 : Nat} (hv0 : N 0 = nI v0) {x : Int32} {Q : Option Value → mI → mJ → mR → Prop} (hB : (nfF I (4 * k0 + k1) 4 nt N P F) 3 = 0 → v0 < 10) (hQ1 : ¬ (nfF I (4 * k0 + k1) 4 nt N P F) 3 = 0 → Q (some (.int 1)) (rM I (nfF I (4 * k0 + k1) 4 nt N P F) K N P) J R) (hQ2 : (nfF I (4 * k0 + k1) 4 nt N P F) 3 = 0 → Q (some (.int 1)) (rM (m_up (m_up I 47 v0 (N 1)) 48 v0 (N 2)) (va_up F 17 (if F 17 < (if nI v0 < N 1 then N 1 else nI v0) then (if nI v0 < N 1 then N 1 else nI v0) else F 17)) K N P) J R) : AW S (d + 7) YReader_readLine n n Q 102 [(4, .int (nI 3)), (0, .ref 40), (1, .int x), (2, .int (nI 4)), (3, .ref (1000010 + 12))] [] (m_row (m_row (m_row (m_row I 40 F) 57 K) 58 N) 59 P) J R n := by
  refine a_aload_n 1 dReader_readLine_102 rfl rfl ?_
  refine a_iload_n 3 dReader_readLine_103 rfl rfl ?_
  refine a_callV (Q' := m_res none (rM I (nfF I (4 * k0 + k1) 4 nt N P F) K N P) J R) (as := [.int (nI 4)]) (st := []) dReader_readLine_104 ml7_146 rfl (Nat.le_of_ble_eq_true rfl) ly_40 rfl rfl (by decide) (by omega) (Nat.le_of_ble_eq_true rfl) rfl (Nat.le_refl _) (Nat.le_refl _) (c_noteFaults4 hn hR hnt h15) (m_go ?_)
  show AW _ _ _ _ _ _ _ _ [] _ _ _ _
  refine a_aload_n 1 dReader_readLine_107 rfl rfl ?_
  refine a_geti dReader_readLine_108 fl7_60 rfl ly_40 (by omega) ?_
  rw [show (rM I (nfF I (4 * k0 + k1) 4 nt N P F) K N P) 40 3 = (nfF I (4 * k0 + k1) 4 nt N P F) 3 from rfl]
  by_cases hf : (nfF I (4 * k0 + k1) 4 nt N P F) 3 = 0
  · have hB9 := hB hf
    have e9 := (nfF_0 hf).1
    refine a_mem (show rM I (nfF I (4 * k0 + k1) 4 nt N P F) K N P = rM I F K N P by rw [e9]) ?_
    refine a_if_ne (tgt := 119) dReader_readLine_111 (by decide) (fun c => False.elim (c hf)) (fun _ => ?_)
    refine a_aload_n 1 dReader_readLine_114 rfl rfl ?_
    refine a_iload_n 3 dReader_readLine_115 rfl rfl ?_
    refine a_callV (Q' := m_res none (rM (m_up (m_up I 47 v0 (N 1)) 48 v0 (N 2)) (va_up F 17 (if F 17 < (if nI v0 < N 1 then N 1 else nI v0) then (if nI v0 < N 1 then N 1 else nI v0) else F 17)) K N P) J R) (as := [.int (nI 4)]) (st := []) dReader_readLine_116 ml7_150 rfl (Nat.le_of_ble_eq_true rfl) ly_40 rfl rfl (by decide) (by omega) (Nat.le_of_ble_eq_true rfl) rfl (Nat.le_refl _) (Nat.le_refl _) (c_tell4 hn hR hv0 hB9) (m_go ?_)
    show AW _ _ _ _ _ _ _ _ [] _ _ _ _
    refine a_iconstN (a := 1) dReader_readLine_119 (by decide) ?_
    exact a_zret dReader_readLine_120 rfl (by rfl) (hQ2 hf)
  · refine a_if_ne (tgt := 119) dReader_readLine_111 (by decide) (fun _ => ?_) (fun c => False.elim (hf c))
    refine a_iconstN (a := 1) dReader_readLine_119 (by decide) ?_
    exact a_zret dReader_readLine_120 rfl (by rfl) (hQ1 hf)
theorem r_end5 {S : Nat × (Nat → Int32)} {d n : Nat} {I : mI} {J : mJ} {R : mR} (hn : 122 ≤ n) (hR : m_fin R) {K N P F : Nat → Int32} {k0 k1 nt : Nat} (hnt : nt ≤ 3) (h15 : F 15 = nI nt) {c : Nat} (hL : I 50 0 = nI c) {x : Int32} {Q : Option Value → mI → mJ → mR → Prop} (hB : (nfF I (4 * k0 + k1) 5 nt N P F) 3 = 0 → c < 40) (hQ1 : ¬ (nfF I (4 * k0 + k1) 5 nt N P F) 3 = 0 → Q (some (.int 1)) (rM I (nfF I (4 * k0 + k1) 5 nt N P F) K N P) J R) (hQ2 : (nfF I (4 * k0 + k1) 5 nt N P F) 3 = 0 → Q (some (.int 1)) (rM (waI I c (nI 0) (N 0) (-1)) F K N P) J R) : AW S (d + 7) YReader_readLine n n Q 102 [(4, .int (nI 1)), (0, .ref 40), (1, .int x), (2, .int (nI 5)), (3, .ref (1000010 + 9))] [] (m_row (m_row (m_row (m_row I 40 F) 57 K) 58 N) 59 P) J R n := by
  refine a_aload_n 1 dReader_readLine_102 rfl rfl ?_
  refine a_iload_n 3 dReader_readLine_103 rfl rfl ?_
  refine a_callV (Q' := m_res none (rM I (nfF I (4 * k0 + k1) 5 nt N P F) K N P) J R) (as := [.int (nI 5)]) (st := []) dReader_readLine_104 ml7_146 rfl (Nat.le_of_ble_eq_true rfl) ly_40 rfl rfl (by decide) (by omega) (Nat.le_of_ble_eq_true rfl) rfl (Nat.le_refl _) (Nat.le_refl _) (c_noteFaults5 hn hR hnt h15) (m_go ?_)
  show AW _ _ _ _ _ _ _ _ [] _ _ _ _
  refine a_aload_n 1 dReader_readLine_107 rfl rfl ?_
  refine a_geti dReader_readLine_108 fl7_60 rfl ly_40 (by omega) ?_
  rw [show (rM I (nfF I (4 * k0 + k1) 5 nt N P F) K N P) 40 3 = (nfF I (4 * k0 + k1) 5 nt N P F) 3 from rfl]
  by_cases hf : (nfF I (4 * k0 + k1) 5 nt N P F) 3 = 0
  · have hB9 := hB hf
    have e9 := (nfF_0 hf).1
    refine a_mem (show rM I (nfF I (4 * k0 + k1) 5 nt N P F) K N P = rM I F K N P by rw [e9]) ?_
    refine a_if_ne (tgt := 119) dReader_readLine_111 (by decide) (fun c => False.elim (c hf)) (fun _ => ?_)
    refine a_aload_n 1 dReader_readLine_114 rfl rfl ?_
    refine a_iload_n 3 dReader_readLine_115 rfl rfl ?_
    refine a_callV (Q' := m_res none (rM (waI I c (nI 0) (N 0) (-1)) F K N P) J R) (as := [.int (nI 5)]) (st := []) dReader_readLine_116 ml7_150 rfl (Nat.le_of_ble_eq_true rfl) ly_40 rfl rfl (by decide) (by omega) (Nat.le_of_ble_eq_true rfl) rfl (Nat.le_refl _) (Nat.le_refl _) (c_tell5 hn hR hL hB9) (m_go ?_)
    show AW _ _ _ _ _ _ _ _ [] _ _ _ _
    refine a_iconstN (a := 1) dReader_readLine_119 (by decide) ?_
    exact a_zret dReader_readLine_120 rfl (by rfl) (hQ2 hf)
  · refine a_if_ne (tgt := 119) dReader_readLine_111 (by decide) (fun _ => ?_) (fun c => False.elim (hf c))
    refine a_iconstN (a := 1) dReader_readLine_119 (by decide) ?_
    exact a_zret dReader_readLine_120 rfl (by rfl) (hQ1 hf)
theorem r_end6 {S : Nat × (Nat → Int32)} {d n : Nat} {I : mI} {J : mJ} {R : mR} (hn : 122 ≤ n) (hR : m_fin R) {K N P F : Nat → Int32} {k0 k1 nt : Nat} (hnt : nt ≤ 3) (h15 : F 15 = nI nt) {c : Nat} (hL : I 50 0 = nI c) {x : Int32} {Q : Option Value → mI → mJ → mR → Prop} (hB : (nfF I (4 * k0 + k1) 6 nt N P F) 3 = 0 → c < 40) (hQ1 : ¬ (nfF I (4 * k0 + k1) 6 nt N P F) 3 = 0 → Q (some (.int 1)) (rM I (nfF I (4 * k0 + k1) 6 nt N P F) K N P) J R) (hQ2 : (nfF I (4 * k0 + k1) 6 nt N P F) 3 = 0 → Q (some (.int 1)) (rM (waI I c (nI 1) (N 0) (N 1)) F K N P) J R) : AW S (d + 7) YReader_readLine n n Q 102 [(4, .int (nI 2)), (0, .ref 40), (1, .int x), (2, .int (nI 6)), (3, .ref (1000010 + 14))] [] (m_row (m_row (m_row (m_row I 40 F) 57 K) 58 N) 59 P) J R n := by
  refine a_aload_n 1 dReader_readLine_102 rfl rfl ?_
  refine a_iload_n 3 dReader_readLine_103 rfl rfl ?_
  refine a_callV (Q' := m_res none (rM I (nfF I (4 * k0 + k1) 6 nt N P F) K N P) J R) (as := [.int (nI 6)]) (st := []) dReader_readLine_104 ml7_146 rfl (Nat.le_of_ble_eq_true rfl) ly_40 rfl rfl (by decide) (by omega) (Nat.le_of_ble_eq_true rfl) rfl (Nat.le_refl _) (Nat.le_refl _) (c_noteFaults6 hn hR hnt h15) (m_go ?_)
  show AW _ _ _ _ _ _ _ _ [] _ _ _ _
  refine a_aload_n 1 dReader_readLine_107 rfl rfl ?_
  refine a_geti dReader_readLine_108 fl7_60 rfl ly_40 (by omega) ?_
  rw [show (rM I (nfF I (4 * k0 + k1) 6 nt N P F) K N P) 40 3 = (nfF I (4 * k0 + k1) 6 nt N P F) 3 from rfl]
  by_cases hf : (nfF I (4 * k0 + k1) 6 nt N P F) 3 = 0
  · have hB9 := hB hf
    have e9 := (nfF_0 hf).1
    refine a_mem (show rM I (nfF I (4 * k0 + k1) 6 nt N P F) K N P = rM I F K N P by rw [e9]) ?_
    refine a_if_ne (tgt := 119) dReader_readLine_111 (by decide) (fun c => False.elim (c hf)) (fun _ => ?_)
    refine a_aload_n 1 dReader_readLine_114 rfl rfl ?_
    refine a_iload_n 3 dReader_readLine_115 rfl rfl ?_
    refine a_callV (Q' := m_res none (rM (waI I c (nI 1) (N 0) (N 1)) F K N P) J R) (as := [.int (nI 6)]) (st := []) dReader_readLine_116 ml7_150 rfl (Nat.le_of_ble_eq_true rfl) ly_40 rfl rfl (by decide) (by omega) (Nat.le_of_ble_eq_true rfl) rfl (Nat.le_refl _) (Nat.le_refl _) (c_tell6 hn hR hL hB9) (m_go ?_)
    show AW _ _ _ _ _ _ _ _ [] _ _ _ _
    refine a_iconstN (a := 1) dReader_readLine_119 (by decide) ?_
    exact a_zret dReader_readLine_120 rfl (by rfl) (hQ2 hf)
  · refine a_if_ne (tgt := 119) dReader_readLine_111 (by decide) (fun _ => ?_) (fun c => False.elim (hf c))
    refine a_iconstN (a := 1) dReader_readLine_119 (by decide) ?_
    exact a_zret dReader_readLine_120 rfl (by rfl) (hQ1 hf)
theorem r_end7 {S : Nat × (Nat → Int32)} {d n : Nat} {I : mI} {J : mJ} {R : mR} (hn : 122 ≤ n) (hR : m_fin R) {K N P F : Nat → Int32} {k0 k1 nt : Nat} (hnt : nt ≤ 3) (h15 : F 15 = nI nt) {c : Nat} (hL : I 50 0 = nI c) {x : Int32} {Q : Option Value → mI → mJ → mR → Prop} (hB : (nfF I (4 * k0 + k1) 7 nt N P F) 3 = 0 → c < 40) (hQ1 : ¬ (nfF I (4 * k0 + k1) 7 nt N P F) 3 = 0 → Q (some (.int 1)) (rM I (nfF I (4 * k0 + k1) 7 nt N P F) K N P) J R) (hQ2 : (nfF I (4 * k0 + k1) 7 nt N P F) 3 = 0 → Q (some (.int 1)) (rM (waI I c (nI 2) (N 0) (-1)) F K N P) J R) : AW S (d + 7) YReader_readLine n n Q 102 [(4, .int (nI 1)), (0, .ref 40), (1, .int x), (2, .int (nI 7)), (3, .ref (1000010 + 9))] [] (m_row (m_row (m_row (m_row I 40 F) 57 K) 58 N) 59 P) J R n := by
  refine a_aload_n 1 dReader_readLine_102 rfl rfl ?_
  refine a_iload_n 3 dReader_readLine_103 rfl rfl ?_
  refine a_callV (Q' := m_res none (rM I (nfF I (4 * k0 + k1) 7 nt N P F) K N P) J R) (as := [.int (nI 7)]) (st := []) dReader_readLine_104 ml7_146 rfl (Nat.le_of_ble_eq_true rfl) ly_40 rfl rfl (by decide) (by omega) (Nat.le_of_ble_eq_true rfl) rfl (Nat.le_refl _) (Nat.le_refl _) (c_noteFaults7 hn hR hnt h15) (m_go ?_)
  show AW _ _ _ _ _ _ _ _ [] _ _ _ _
  refine a_aload_n 1 dReader_readLine_107 rfl rfl ?_
  refine a_geti dReader_readLine_108 fl7_60 rfl ly_40 (by omega) ?_
  rw [show (rM I (nfF I (4 * k0 + k1) 7 nt N P F) K N P) 40 3 = (nfF I (4 * k0 + k1) 7 nt N P F) 3 from rfl]
  by_cases hf : (nfF I (4 * k0 + k1) 7 nt N P F) 3 = 0
  · have hB9 := hB hf
    have e9 := (nfF_0 hf).1
    refine a_mem (show rM I (nfF I (4 * k0 + k1) 7 nt N P F) K N P = rM I F K N P by rw [e9]) ?_
    refine a_if_ne (tgt := 119) dReader_readLine_111 (by decide) (fun c => False.elim (c hf)) (fun _ => ?_)
    refine a_aload_n 1 dReader_readLine_114 rfl rfl ?_
    refine a_iload_n 3 dReader_readLine_115 rfl rfl ?_
    refine a_callV (Q' := m_res none (rM (waI I c (nI 2) (N 0) (-1)) F K N P) J R) (as := [.int (nI 7)]) (st := []) dReader_readLine_116 ml7_150 rfl (Nat.le_of_ble_eq_true rfl) ly_40 rfl rfl (by decide) (by omega) (Nat.le_of_ble_eq_true rfl) rfl (Nat.le_refl _) (Nat.le_refl _) (c_tell7 hn hR hL hB9) (m_go ?_)
    show AW _ _ _ _ _ _ _ _ [] _ _ _ _
    refine a_iconstN (a := 1) dReader_readLine_119 (by decide) ?_
    exact a_zret dReader_readLine_120 rfl (by rfl) (hQ2 hf)
  · refine a_if_ne (tgt := 119) dReader_readLine_111 (by decide) (fun _ => ?_) (fun c => False.elim (hf c))
    refine a_iconstN (a := 1) dReader_readLine_119 (by decide) ?_
    exact a_zret dReader_readLine_120 rfl (by rfl) (hQ1 hf)
theorem r_end8 {S : Nat × (Nat → Int32)} {d n : Nat} {I : mI} {J : mJ} {R : mR} (hn : 122 ≤ n) (hR : m_fin R) {K N P F : Nat → Int32} {k0 k1 nt : Nat} (hnt : nt ≤ 3) (h15 : F 15 = nI nt) {c : Nat} (hL : I 50 0 = nI c) {x : Int32} {Q : Option Value → mI → mJ → mR → Prop} (hB : (nfF I (4 * k0 + k1) 8 nt N P F) 3 = 0 → c < 40) (hQ1 : ¬ (nfF I (4 * k0 + k1) 8 nt N P F) 3 = 0 → Q (some (.int 1)) (rM I (nfF I (4 * k0 + k1) 8 nt N P F) K N P) J R) (hQ2 : (nfF I (4 * k0 + k1) 8 nt N P F) 3 = 0 → Q (some (.int 1)) (rM (waI I c (nI 3) (-1) (-1)) F K N P) J R) : AW S (d + 7) YReader_readLine n n Q 102 [(4, .int (nI 0)), (0, .ref 40), (1, .int x), (2, .int (nI 8)), (3, .ref (1000010 + 13))] [] (m_row (m_row (m_row (m_row I 40 F) 57 K) 58 N) 59 P) J R n := by
  refine a_aload_n 1 dReader_readLine_102 rfl rfl ?_
  refine a_iload_n 3 dReader_readLine_103 rfl rfl ?_
  refine a_callV (Q' := m_res none (rM I (nfF I (4 * k0 + k1) 8 nt N P F) K N P) J R) (as := [.int (nI 8)]) (st := []) dReader_readLine_104 ml7_146 rfl (Nat.le_of_ble_eq_true rfl) ly_40 rfl rfl (by decide) (by omega) (Nat.le_of_ble_eq_true rfl) rfl (Nat.le_refl _) (Nat.le_refl _) (c_noteFaults8 hn hR hnt h15) (m_go ?_)
  show AW _ _ _ _ _ _ _ _ [] _ _ _ _
  refine a_aload_n 1 dReader_readLine_107 rfl rfl ?_
  refine a_geti dReader_readLine_108 fl7_60 rfl ly_40 (by omega) ?_
  rw [show (rM I (nfF I (4 * k0 + k1) 8 nt N P F) K N P) 40 3 = (nfF I (4 * k0 + k1) 8 nt N P F) 3 from rfl]
  by_cases hf : (nfF I (4 * k0 + k1) 8 nt N P F) 3 = 0
  · have hB9 := hB hf
    have e9 := (nfF_0 hf).1
    refine a_mem (show rM I (nfF I (4 * k0 + k1) 8 nt N P F) K N P = rM I F K N P by rw [e9]) ?_
    refine a_if_ne (tgt := 119) dReader_readLine_111 (by decide) (fun c => False.elim (c hf)) (fun _ => ?_)
    refine a_aload_n 1 dReader_readLine_114 rfl rfl ?_
    refine a_iload_n 3 dReader_readLine_115 rfl rfl ?_
    refine a_callV (Q' := m_res none (rM (waI I c (nI 3) (-1) (-1)) F K N P) J R) (as := [.int (nI 8)]) (st := []) dReader_readLine_116 ml7_150 rfl (Nat.le_of_ble_eq_true rfl) ly_40 rfl rfl (by decide) (by omega) (Nat.le_of_ble_eq_true rfl) rfl (Nat.le_refl _) (Nat.le_refl _) (c_tell8 hn hR hL hB9) (m_go ?_)
    show AW _ _ _ _ _ _ _ _ [] _ _ _ _
    refine a_iconstN (a := 1) dReader_readLine_119 (by decide) ?_
    exact a_zret dReader_readLine_120 rfl (by rfl) (hQ2 hf)
  · refine a_if_ne (tgt := 119) dReader_readLine_111 (by decide) (fun _ => ?_) (fun c => False.elim (hf c))
    refine a_iconstN (a := 1) dReader_readLine_119 (by decide) ?_
    exact a_zret dReader_readLine_120 rfl (by rfl) (hQ1 hf)
theorem r_end9 {S : Nat × (Nat → Int32)} {d n : Nat} {I : mI} {J : mJ} {R : mR} (hn : 122 ≤ n) (hR : m_fin R) {K N P F : Nat → Int32} {k0 k1 nt : Nat} (hnt : nt ≤ 3) (h15 : F 15 = nI nt) {c : Nat} (hL : I 54 0 = nI c) {x : Int32} {Q : Option Value → mI → mJ → mR → Prop} (hB : (nfF I (4 * k0 + k1) 9 nt N P F) 3 = 0 → c < 8) (hQ1 : ¬ (nfF I (4 * k0 + k1) 9 nt N P F) 3 = 0 → Q (some (.int 1)) (rM I (nfF I (4 * k0 + k1) 9 nt N P F) K N P) J R) (hQ2 : (nfF I (4 * k0 + k1) 9 nt N P F) 3 = 0 → Q (some (.int 1)) (rM (gaI I c (N 0) (N 1)) F K N P) J R) : AW S (d + 7) YReader_readLine n n Q 102 [(4, .int (nI 2)), (0, .ref 40), (1, .int x), (2, .int (nI 9)), (3, .ref (1000010 + 14))] [] (m_row (m_row (m_row (m_row I 40 F) 57 K) 58 N) 59 P) J R n := by
  refine a_aload_n 1 dReader_readLine_102 rfl rfl ?_
  refine a_iload_n 3 dReader_readLine_103 rfl rfl ?_
  refine a_callV (Q' := m_res none (rM I (nfF I (4 * k0 + k1) 9 nt N P F) K N P) J R) (as := [.int (nI 9)]) (st := []) dReader_readLine_104 ml7_146 rfl (Nat.le_of_ble_eq_true rfl) ly_40 rfl rfl (by decide) (by omega) (Nat.le_of_ble_eq_true rfl) rfl (Nat.le_refl _) (Nat.le_refl _) (c_noteFaults9 hn hR hnt h15) (m_go ?_)
  show AW _ _ _ _ _ _ _ _ [] _ _ _ _
  refine a_aload_n 1 dReader_readLine_107 rfl rfl ?_
  refine a_geti dReader_readLine_108 fl7_60 rfl ly_40 (by omega) ?_
  rw [show (rM I (nfF I (4 * k0 + k1) 9 nt N P F) K N P) 40 3 = (nfF I (4 * k0 + k1) 9 nt N P F) 3 from rfl]
  by_cases hf : (nfF I (4 * k0 + k1) 9 nt N P F) 3 = 0
  · have hB9 := hB hf
    have e9 := (nfF_0 hf).1
    refine a_mem (show rM I (nfF I (4 * k0 + k1) 9 nt N P F) K N P = rM I F K N P by rw [e9]) ?_
    refine a_if_ne (tgt := 119) dReader_readLine_111 (by decide) (fun c => False.elim (c hf)) (fun _ => ?_)
    refine a_aload_n 1 dReader_readLine_114 rfl rfl ?_
    refine a_iload_n 3 dReader_readLine_115 rfl rfl ?_
    refine a_callV (Q' := m_res none (rM (gaI I c (N 0) (N 1)) F K N P) J R) (as := [.int (nI 9)]) (st := []) dReader_readLine_116 ml7_150 rfl (Nat.le_of_ble_eq_true rfl) ly_40 rfl rfl (by decide) (by omega) (Nat.le_of_ble_eq_true rfl) rfl (Nat.le_refl _) (Nat.le_refl _) (c_tell9 hn hR hL hB9) (m_go ?_)
    show AW _ _ _ _ _ _ _ _ [] _ _ _ _
    refine a_iconstN (a := 1) dReader_readLine_119 (by decide) ?_
    exact a_zret dReader_readLine_120 rfl (by rfl) (hQ2 hf)
  · refine a_if_ne (tgt := 119) dReader_readLine_111 (by decide) (fun _ => ?_) (fun c => False.elim (hf c))
    refine a_iconstN (a := 1) dReader_readLine_119 (by decide) ?_
    exact a_zret dReader_readLine_120 rfl (by rfl) (hQ1 hf)
