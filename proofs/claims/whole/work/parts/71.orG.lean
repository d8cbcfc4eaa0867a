def ldAS (I : mI) (o t : Nat) (k : Nat) (s : Int32 × Int32 × (Nat → Int32)) : Int32 × Int32 × (Nat → Int32) := (if (t + 1) = 1 then (if (t + 1) = 1 then (((I (o + 5) k) - (nI 0)), ((I (o + 5) ((k + (t + 1)) - 1)) - (nI 0)), (va_up s.2.2 k (if ((I (o + 5) k) - (nI 0)) < ((I (o + 5) ((k + (t + 1)) - 1)) - (nI 0)) then ((I (o + 5) ((k + (t + 1)) - 1)) - (nI 0)) else ((I (o + 5) k) - (nI 0))))) else (((I (o + 5) k) - (nI 0)), ((I (o + 5) ((k + (t + 1)) - 1)) - (s.2.2 k)), (va_up s.2.2 k (if ((I (o + 5) k) - (nI 0)) < ((I (o + 5) ((k + (t + 1)) - 1)) - (s.2.2 k)) then ((I (o + 5) ((k + (t + 1)) - 1)) - (s.2.2 k)) else ((I (o + 5) k) - (nI 0)))))) else (if (t + 1) = 1 then (((I (o + 5) k) - (s.2.2 (k + 1))), ((I (o + 5) ((k + (t + 1)) - 1)) - (nI 0)), (va_up s.2.2 k (if ((I (o + 5) k) - (s.2.2 (k + 1))) < ((I (o + 5) ((k + (t + 1)) - 1)) - (nI 0)) then ((I (o + 5) ((k + (t + 1)) - 1)) - (nI 0)) else ((I (o + 5) k) - (s.2.2 (k + 1)))))) else (((I (o + 5) k) - (s.2.2 (k + 1))), ((I (o + 5) ((k + (t + 1)) - 1)) - (s.2.2 k)), (va_up s.2.2 k (if ((I (o + 5) k) - (s.2.2 (k + 1))) < ((I (o + 5) ((k + (t + 1)) - 1)) - (s.2.2 k)) then ((I (o + 5) ((k + (t + 1)) - 1)) - (s.2.2 k)) else ((I (o + 5) k) - (s.2.2 (k + 1))))))))
def ldA (I : mI) (o t : Nat) (s0 : Int32 × Int32 × (Nat → Int32)) : Nat → Int32 × Int32 × (Nat → Int32)
  | 0 => s0
  | k + 1 => ldAS I o t k (ldA I o t s0 k)
theorem l_ldA {S : Nat × (Nat → Int32)} {d n : Nat} {I : mI} {J : mJ} {R : mR} (hn : 122 ≤ n) (hR : m_fin R) {o nh nl : Nat} (ho : o ∈ m_offs) (hr : offR R o) (hon : o + 8 < n) (hh : I o 0 = nI nh) (hnh : nh ≤ 6) (hl : I o 1 = nI nl) (hnl : nl ≤ 10) (hW : WFc I o nl) (hH : WFh (I (o + 2)) nl) {u : Int32} {t : Nat} (ht : t < nl)  {s0 : Int32 × Int32 × (Nat → Int32)} {Q : Option Value → mI → mJ → mR → Prop}  (hx : AW S (d + 1) YOrders_lead n n Q 145 [(7, .int (nI (nl - t))), (4, .int (ldA I o t s0 (nl - t)).1), (5, .int (ldA I o t s0 (nl - t)).2.1), (0, .ref 64), (1, .ref o), (2, .int u), (3, .int (nI nl)), (6, .int (nI (t + 1)))] [] (m_row I 70 ((ldA I o t s0 (nl - t)).2.2)) J R n) : ∀ m k, k + m = (nl - t) → ∀ s : Int32 × Int32 × (Nat → Int32), ldA I o t s0 k = s → AW S (d + 1) YOrders_lead n n Q 51 [(7, .int (nI k)), (4, .int s.1), (5, .int s.2.1), (0, .ref 64), (1, .ref o), (2, .int u), (3, .int (nI nl)), (6, .int (nI (t + 1)))] [] (m_row I 70 s.2.2) J R n := by
  intro m
  induction m with
  | zero =>
    intro k hk9 s es
    rw [show k = (nl - t) by omega] at es ⊢
    subst es
    refine a_iload 0 dOrders_lead_51 rfl ?_
    refine a_iload 7 dOrders_lead_53 rfl ?_
    refine a_iaddN (a := (nl - t)) (b := (t + 1)) dOrders_lead_55 ?_
    refine a_iload_n 6 dOrders_lead_56 rfl rfl ?_
    refine a_icmp_gtN (tgt := 145) dOrders_lead_57 (by decide) (by omega) (by omega) (fun _ => ?_) (fun c => False.elim (by omega))
    exact hx
  | succ m ih =>
    intro k hk9 s es
    refine a_iload 0 dOrders_lead_51 rfl ?_
    refine a_iload 7 dOrders_lead_53 rfl ?_
    refine a_iaddN (a := k) (b := (t + 1)) dOrders_lead_55 ?_
    refine a_iload_n 6 dOrders_lead_56 rfl rfl ?_
    refine a_icmp_gtN (tgt := 145) dOrders_lead_57 (by decide) (by omega) (by omega) (fun c => False.elim (by omega)) (fun _ => ?_)
    refine a_iload 0 dOrders_lead_60 rfl ?_
    refine a_iload 7 dOrders_lead_62 rfl ?_
    refine a_iaddN (a := k) (b := (t + 1)) dOrders_lead_64 ?_
    refine a_iconstN (a := 1) dOrders_lead_65 (by decide) ?_
    refine a_isubN dOrders_lead_66 (by omega) ?_
    refine a_istore (lv' := [(8, .int (nI ((k + (t + 1)) - 1))), (7, .int (nI k)), (4, .int s.1), (5, .int s.2.1), (0, .ref 64), (1, .ref o), (2, .int u), (3, .int (nI nl)), (6, .int (nI (t + 1)))]) dOrders_lead_67 (by decide) rfl ?_
    refine a_aload_n 5 dOrders_lead_69 rfl rfl ?_
    refine a_geta (r := (o + 5)) dOrders_lead_70 fl5_109 rfl (of_l0 ho) (by omega) (hr 4 (by decide)) ?_
    refine a_iload 1 dOrders_lead_73 rfl ?_
    refine a_ialdN (a := k) dOrders_lead_75 (of_l5 ho) (by omega) (by omega) (by decide) ?_
    rw [show (m_row I 70 s.2.2) (o + 5) k = I (o + 5) k from (by rw [m_row_ne (oc_ne ho (by decide) (by decide))])]
    refine a_iload 8 dOrders_lead_76 rfl ?_
    refine a_iconstN (a := 1) dOrders_lead_78 (by decide) ?_
    refine a_icmp_neN (tgt := 86) dOrders_lead_79 (by decide) (by omega) (by omega) (fun c79 => ?_) (fun c79 => ?_)
    · refine a_aload_n 4 dOrders_lead_86 rfl rfl ?_
      refine a_geta (r := 70) dOrders_lead_87 fl5_27 rfl ly_64 (by omega) (rf_64_8 hR) ?_
      refine a_iload 1 dOrders_lead_90 rfl ?_
      refine a_iconstN (a := 1) dOrders_lead_92 (by decide) ?_
      refine a_iaddN (a := k) (b := 1) dOrders_lead_93 ?_
      refine a_ialdN (a := (k + 1)) dOrders_lead_94 ly_70 (by omega) (by omega) (by decide) ?_
      rw [show (m_row I 70 s.2.2) 70 (k + 1) = s.2.2 (k + 1) from rfl]
      refine a_isub dOrders_lead_95 ?_
      refine a_istore (lv' := [(4, .int ((I (o + 5) k) - (s.2.2 (k + 1)))), (8, .int (nI ((k + (t + 1)) - 1))), (7, .int (nI k)), (5, .int s.2.1), (0, .ref 64), (1, .ref o), (2, .int u), (3, .int (nI nl)), (6, .int (nI (t + 1)))]) dOrders_lead_96 (by decide) rfl ?_
      refine a_aload_n 5 dOrders_lead_98 rfl rfl ?_
      refine a_geta (r := (o + 5)) dOrders_lead_99 fl5_109 rfl (of_l0 ho) (by omega) (hr 4 (by decide)) ?_
      refine a_iload 1 dOrders_lead_102 rfl ?_
      refine a_ialdN (a := ((k + (t + 1)) - 1)) dOrders_lead_104 (of_l5 ho) (by omega) (by omega) (by decide) ?_
      rw [show (m_row I 70 s.2.2) (o + 5) ((k + (t + 1)) - 1) = I (o + 5) ((k + (t + 1)) - 1) from (by rw [m_row_ne (oc_ne ho (by decide) (by decide))])]
      refine a_iload 8 dOrders_lead_105 rfl ?_
      refine a_iconstN (a := 1) dOrders_lead_107 (by decide) ?_
      refine a_icmp_neN (tgt := 115) dOrders_lead_108 (by decide) (by omega) (by omega) (fun c108 => ?_) (fun c108 => ?_)
      · refine a_aload_n 4 dOrders_lead_115 rfl rfl ?_
        refine a_geta (r := 70) dOrders_lead_116 fl5_27 rfl ly_64 (by omega) (rf_64_8 hR) ?_
        refine a_iload 2 dOrders_lead_119 rfl ?_
        refine a_ialdN (a := k) dOrders_lead_121 ly_70 (by omega) (by omega) (by decide) ?_
        rw [show (m_row I 70 s.2.2) 70 k = s.2.2 k from rfl]
        refine a_isub dOrders_lead_122 ?_
        refine a_istore (lv' := [(5, .int ((I (o + 5) ((k + (t + 1)) - 1)) - (s.2.2 k))), (4, .int ((I (o + 5) k) - (s.2.2 (k + 1)))), (8, .int (nI ((k + (t + 1)) - 1))), (7, .int (nI k)), (0, .ref 64), (1, .ref o), (2, .int u), (3, .int (nI nl)), (6, .int (nI (t + 1)))]) dOrders_lead_123 (by decide) rfl ?_
        refine a_aload_n 4 dOrders_lead_125 rfl rfl ?_
        refine a_geta (r := 70) dOrders_lead_126 fl5_27 rfl ly_64 (by omega) (rf_64_8 hR) ?_
        refine a_iload 3 dOrders_lead_129 rfl ?_
        refine a_iload 1 dOrders_lead_131 rfl ?_
        refine a_iload 0 dOrders_lead_133 rfl ?_
        refine a_max dOrders_lead_135 mm5_112 (Nat.le_of_ble_eq_true rfl) (Nat.le_refl _) ?_
        refine a_iastN (a := k) dOrders_lead_138 ly_70 (by omega) (by omega) (by decide) ?_
        rw [show m_up (m_row I 70 s.2.2) 70 k (if ((I (o + 5) k) - (s.2.2 (k + 1))) < ((I (o + 5) ((k + (t + 1)) - 1)) - (s.2.2 k)) then ((I (o + 5) ((k + (t + 1)) - 1)) - (s.2.2 k)) else ((I (o + 5) k) - (s.2.2 (k + 1)))) = (m_row I 70 (va_up s.2.2 k (if ((I (o + 5) k) - (s.2.2 (k + 1))) < ((I (o + 5) ((k + (t + 1)) - 1)) - (s.2.2 k)) then ((I (o + 5) ((k + (t + 1)) - 1)) - (s.2.2 k)) else ((I (o + 5) k) - (s.2.2 (k + 1)))))) from (by rw [m_up_r])]
        refine a_iincN (lv' := [(7, .int (nI (k + 1))), (5, .int ((I (o + 5) ((k + (t + 1)) - 1)) - (s.2.2 k))), (4, .int ((I (o + 5) k) - (s.2.2 (k + 1)))), (8, .int (nI ((k + (t + 1)) - 1))), (0, .ref 64), (1, .ref o), (2, .int u), (3, .int (nI nl)), (6, .int (nI (t + 1)))]) (j := 3) dOrders_lead_139 rfl (by decide) rfl ?_
        refine a_goto (tgt := 51) dOrders_lead_142 (by decide) ?_
        have ez9 : ldA I o t s0 (k + 1) = (((I (o + 5) k) - (s.2.2 (k + 1))), ((I (o + 5) ((k + (t + 1)) - 1)) - (s.2.2 k)), (va_up s.2.2 k (if ((I (o + 5) k) - (s.2.2 (k + 1))) < ((I (o + 5) ((k + (t + 1)) - 1)) - (s.2.2 k)) then ((I (o + 5) ((k + (t + 1)) - 1)) - (s.2.2 k)) else ((I (o + 5) k) - (s.2.2 (k + 1)))))) := by
          show ldAS I o t k (ldA I o t s0 k) = _
          rw [es]
          unfold ldAS
          rw [if_neg (show ¬ ((t + 1) = 1) by omega), if_neg (show ¬ ((t + 1) = 1) by omega)]
        refine a_locs (lv' := [(7, .int (nI (k + 1))), (4, .int ((I (o + 5) k) - (s.2.2 (k + 1)))), (5, .int ((I (o + 5) ((k + (t + 1)) - 1)) - (s.2.2 k))), (0, .ref 64), (1, .ref o), (2, .int u), (3, .int (nI nl)), (6, .int (nI (t + 1)))]) [0, 2, 1, 4, 5, 6, 7, 8] rfl ?_
        exact ih (k + 1) (by omega) (((I (o + 5) k) - (s.2.2 (k + 1))), ((I (o + 5) ((k + (t + 1)) - 1)) - (s.2.2 k)), (va_up s.2.2 k (if ((I (o + 5) k) - (s.2.2 (k + 1))) < ((I (o + 5) ((k + (t + 1)) - 1)) - (s.2.2 k)) then ((I (o + 5) ((k + (t + 1)) - 1)) - (s.2.2 k)) else ((I (o + 5) k) - (s.2.2 (k + 1)))))) ez9
      · refine a_iconstN (a := 0) dOrders_lead_111 (by decide) ?_
        refine a_goto (tgt := 122) dOrders_lead_112 (by decide) ?_
        refine a_isub dOrders_lead_122 ?_
        refine a_istore (lv' := [(5, .int ((I (o + 5) ((k + (t + 1)) - 1)) - (nI 0))), (4, .int ((I (o + 5) k) - (s.2.2 (k + 1)))), (8, .int (nI ((k + (t + 1)) - 1))), (7, .int (nI k)), (0, .ref 64), (1, .ref o), (2, .int u), (3, .int (nI nl)), (6, .int (nI (t + 1)))]) dOrders_lead_123 (by decide) rfl ?_
        refine a_aload_n 4 dOrders_lead_125 rfl rfl ?_
        refine a_geta (r := 70) dOrders_lead_126 fl5_27 rfl ly_64 (by omega) (rf_64_8 hR) ?_
        refine a_iload 3 dOrders_lead_129 rfl ?_
        refine a_iload 1 dOrders_lead_131 rfl ?_
        refine a_iload 0 dOrders_lead_133 rfl ?_
        refine a_max dOrders_lead_135 mm5_112 (Nat.le_of_ble_eq_true rfl) (Nat.le_refl _) ?_
        refine a_iastN (a := k) dOrders_lead_138 ly_70 (by omega) (by omega) (by decide) ?_
        rw [show m_up (m_row I 70 s.2.2) 70 k (if ((I (o + 5) k) - (s.2.2 (k + 1))) < ((I (o + 5) ((k + (t + 1)) - 1)) - (nI 0)) then ((I (o + 5) ((k + (t + 1)) - 1)) - (nI 0)) else ((I (o + 5) k) - (s.2.2 (k + 1)))) = (m_row I 70 (va_up s.2.2 k (if ((I (o + 5) k) - (s.2.2 (k + 1))) < ((I (o + 5) ((k + (t + 1)) - 1)) - (nI 0)) then ((I (o + 5) ((k + (t + 1)) - 1)) - (nI 0)) else ((I (o + 5) k) - (s.2.2 (k + 1)))))) from (by rw [m_up_r])]
        refine a_iincN (lv' := [(7, .int (nI (k + 1))), (5, .int ((I (o + 5) ((k + (t + 1)) - 1)) - (nI 0))), (4, .int ((I (o + 5) k) - (s.2.2 (k + 1)))), (8, .int (nI ((k + (t + 1)) - 1))), (0, .ref 64), (1, .ref o), (2, .int u), (3, .int (nI nl)), (6, .int (nI (t + 1)))]) (j := 3) dOrders_lead_139 rfl (by decide) rfl ?_
        refine a_goto (tgt := 51) dOrders_lead_142 (by decide) ?_
        have ez9 : ldA I o t s0 (k + 1) = (((I (o + 5) k) - (s.2.2 (k + 1))), ((I (o + 5) ((k + (t + 1)) - 1)) - (nI 0)), (va_up s.2.2 k (if ((I (o + 5) k) - (s.2.2 (k + 1))) < ((I (o + 5) ((k + (t + 1)) - 1)) - (nI 0)) then ((I (o + 5) ((k + (t + 1)) - 1)) - (nI 0)) else ((I (o + 5) k) - (s.2.2 (k + 1)))))) := by
          show ldAS I o t k (ldA I o t s0 k) = _
          rw [es]
          unfold ldAS
          rw [if_neg (show ¬ ((t + 1) = 1) by omega), if_pos (show (t + 1) = 1 by omega)]
        refine a_locs (lv' := [(7, .int (nI (k + 1))), (4, .int ((I (o + 5) k) - (s.2.2 (k + 1)))), (5, .int ((I (o + 5) ((k + (t + 1)) - 1)) - (nI 0))), (0, .ref 64), (1, .ref o), (2, .int u), (3, .int (nI nl)), (6, .int (nI (t + 1)))]) [0, 2, 1, 4, 5, 6, 7, 8] rfl ?_
        exact ih (k + 1) (by omega) (((I (o + 5) k) - (s.2.2 (k + 1))), ((I (o + 5) ((k + (t + 1)) - 1)) - (nI 0)), (va_up s.2.2 k (if ((I (o + 5) k) - (s.2.2 (k + 1))) < ((I (o + 5) ((k + (t + 1)) - 1)) - (nI 0)) then ((I (o + 5) ((k + (t + 1)) - 1)) - (nI 0)) else ((I (o + 5) k) - (s.2.2 (k + 1)))))) ez9
    · refine a_iconstN (a := 0) dOrders_lead_82 (by decide) ?_
      refine a_goto (tgt := 95) dOrders_lead_83 (by decide) ?_
      refine a_isub dOrders_lead_95 ?_
      refine a_istore (lv' := [(4, .int ((I (o + 5) k) - (nI 0))), (8, .int (nI ((k + (t + 1)) - 1))), (7, .int (nI k)), (5, .int s.2.1), (0, .ref 64), (1, .ref o), (2, .int u), (3, .int (nI nl)), (6, .int (nI (t + 1)))]) dOrders_lead_96 (by decide) rfl ?_
      refine a_aload_n 5 dOrders_lead_98 rfl rfl ?_
      refine a_geta (r := (o + 5)) dOrders_lead_99 fl5_109 rfl (of_l0 ho) (by omega) (hr 4 (by decide)) ?_
      refine a_iload 1 dOrders_lead_102 rfl ?_
      refine a_ialdN (a := ((k + (t + 1)) - 1)) dOrders_lead_104 (of_l5 ho) (by omega) (by omega) (by decide) ?_
      rw [show (m_row I 70 s.2.2) (o + 5) ((k + (t + 1)) - 1) = I (o + 5) ((k + (t + 1)) - 1) from (by rw [m_row_ne (oc_ne ho (by decide) (by decide))])]
      refine a_iload 8 dOrders_lead_105 rfl ?_
      refine a_iconstN (a := 1) dOrders_lead_107 (by decide) ?_
      refine a_icmp_neN (tgt := 115) dOrders_lead_108 (by decide) (by omega) (by omega) (fun c108 => ?_) (fun c108 => ?_)
      · refine a_aload_n 4 dOrders_lead_115 rfl rfl ?_
        refine a_geta (r := 70) dOrders_lead_116 fl5_27 rfl ly_64 (by omega) (rf_64_8 hR) ?_
        refine a_iload 2 dOrders_lead_119 rfl ?_
        refine a_ialdN (a := k) dOrders_lead_121 ly_70 (by omega) (by omega) (by decide) ?_
        rw [show (m_row I 70 s.2.2) 70 k = s.2.2 k from rfl]
        refine a_isub dOrders_lead_122 ?_
        refine a_istore (lv' := [(5, .int ((I (o + 5) ((k + (t + 1)) - 1)) - (s.2.2 k))), (4, .int ((I (o + 5) k) - (nI 0))), (8, .int (nI ((k + (t + 1)) - 1))), (7, .int (nI k)), (0, .ref 64), (1, .ref o), (2, .int u), (3, .int (nI nl)), (6, .int (nI (t + 1)))]) dOrders_lead_123 (by decide) rfl ?_
        refine a_aload_n 4 dOrders_lead_125 rfl rfl ?_
        refine a_geta (r := 70) dOrders_lead_126 fl5_27 rfl ly_64 (by omega) (rf_64_8 hR) ?_
        refine a_iload 3 dOrders_lead_129 rfl ?_
        refine a_iload 1 dOrders_lead_131 rfl ?_
        refine a_iload 0 dOrders_lead_133 rfl ?_
        refine a_max dOrders_lead_135 mm5_112 (Nat.le_of_ble_eq_true rfl) (Nat.le_refl _) ?_
        refine a_iastN (a := k) dOrders_lead_138 ly_70 (by omega) (by omega) (by decide) ?_
        rw [show m_up (m_row I 70 s.2.2) 70 k (if ((I (o + 5) k) - (nI 0)) < ((I (o + 5) ((k + (t + 1)) - 1)) - (s.2.2 k)) then ((I (o + 5) ((k + (t + 1)) - 1)) - (s.2.2 k)) else ((I (o + 5) k) - (nI 0))) = (m_row I 70 (va_up s.2.2 k (if ((I (o + 5) k) - (nI 0)) < ((I (o + 5) ((k + (t + 1)) - 1)) - (s.2.2 k)) then ((I (o + 5) ((k + (t + 1)) - 1)) - (s.2.2 k)) else ((I (o + 5) k) - (nI 0))))) from (by rw [m_up_r])]
        refine a_iincN (lv' := [(7, .int (nI (k + 1))), (5, .int ((I (o + 5) ((k + (t + 1)) - 1)) - (s.2.2 k))), (4, .int ((I (o + 5) k) - (nI 0))), (8, .int (nI ((k + (t + 1)) - 1))), (0, .ref 64), (1, .ref o), (2, .int u), (3, .int (nI nl)), (6, .int (nI (t + 1)))]) (j := 3) dOrders_lead_139 rfl (by decide) rfl ?_
        refine a_goto (tgt := 51) dOrders_lead_142 (by decide) ?_
        have ez9 : ldA I o t s0 (k + 1) = (((I (o + 5) k) - (nI 0)), ((I (o + 5) ((k + (t + 1)) - 1)) - (s.2.2 k)), (va_up s.2.2 k (if ((I (o + 5) k) - (nI 0)) < ((I (o + 5) ((k + (t + 1)) - 1)) - (s.2.2 k)) then ((I (o + 5) ((k + (t + 1)) - 1)) - (s.2.2 k)) else ((I (o + 5) k) - (nI 0))))) := by
          show ldAS I o t k (ldA I o t s0 k) = _
          rw [es]
          unfold ldAS
          rw [if_pos (show (t + 1) = 1 by omega), if_neg (show ¬ ((t + 1) = 1) by omega)]
        refine a_locs (lv' := [(7, .int (nI (k + 1))), (4, .int ((I (o + 5) k) - (nI 0))), (5, .int ((I (o + 5) ((k + (t + 1)) - 1)) - (s.2.2 k))), (0, .ref 64), (1, .ref o), (2, .int u), (3, .int (nI nl)), (6, .int (nI (t + 1)))]) [0, 2, 1, 4, 5, 6, 7, 8] rfl ?_
        exact ih (k + 1) (by omega) (((I (o + 5) k) - (nI 0)), ((I (o + 5) ((k + (t + 1)) - 1)) - (s.2.2 k)), (va_up s.2.2 k (if ((I (o + 5) k) - (nI 0)) < ((I (o + 5) ((k + (t + 1)) - 1)) - (s.2.2 k)) then ((I (o + 5) ((k + (t + 1)) - 1)) - (s.2.2 k)) else ((I (o + 5) k) - (nI 0))))) ez9
      · refine a_iconstN (a := 0) dOrders_lead_111 (by decide) ?_
        refine a_goto (tgt := 122) dOrders_lead_112 (by decide) ?_
        refine a_isub dOrders_lead_122 ?_
        refine a_istore (lv' := [(5, .int ((I (o + 5) ((k + (t + 1)) - 1)) - (nI 0))), (4, .int ((I (o + 5) k) - (nI 0))), (8, .int (nI ((k + (t + 1)) - 1))), (7, .int (nI k)), (0, .ref 64), (1, .ref o), (2, .int u), (3, .int (nI nl)), (6, .int (nI (t + 1)))]) dOrders_lead_123 (by decide) rfl ?_
        refine a_aload_n 4 dOrders_lead_125 rfl rfl ?_
        refine a_geta (r := 70) dOrders_lead_126 fl5_27 rfl ly_64 (by omega) (rf_64_8 hR) ?_
        refine a_iload 3 dOrders_lead_129 rfl ?_
        refine a_iload 1 dOrders_lead_131 rfl ?_
        refine a_iload 0 dOrders_lead_133 rfl ?_
        refine a_max dOrders_lead_135 mm5_112 (Nat.le_of_ble_eq_true rfl) (Nat.le_refl _) ?_
        refine a_iastN (a := k) dOrders_lead_138 ly_70 (by omega) (by omega) (by decide) ?_
        rw [show m_up (m_row I 70 s.2.2) 70 k (if ((I (o + 5) k) - (nI 0)) < ((I (o + 5) ((k + (t + 1)) - 1)) - (nI 0)) then ((I (o + 5) ((k + (t + 1)) - 1)) - (nI 0)) else ((I (o + 5) k) - (nI 0))) = (m_row I 70 (va_up s.2.2 k (if ((I (o + 5) k) - (nI 0)) < ((I (o + 5) ((k + (t + 1)) - 1)) - (nI 0)) then ((I (o + 5) ((k + (t + 1)) - 1)) - (nI 0)) else ((I (o + 5) k) - (nI 0))))) from (by rw [m_up_r])]
        refine a_iincN (lv' := [(7, .int (nI (k + 1))), (5, .int ((I (o + 5) ((k + (t + 1)) - 1)) - (nI 0))), (4, .int ((I (o + 5) k) - (nI 0))), (8, .int (nI ((k + (t + 1)) - 1))), (0, .ref 64), (1, .ref o), (2, .int u), (3, .int (nI nl)), (6, .int (nI (t + 1)))]) (j := 3) dOrders_lead_139 rfl (by decide) rfl ?_
        refine a_goto (tgt := 51) dOrders_lead_142 (by decide) ?_
        have ez9 : ldA I o t s0 (k + 1) = (((I (o + 5) k) - (nI 0)), ((I (o + 5) ((k + (t + 1)) - 1)) - (nI 0)), (va_up s.2.2 k (if ((I (o + 5) k) - (nI 0)) < ((I (o + 5) ((k + (t + 1)) - 1)) - (nI 0)) then ((I (o + 5) ((k + (t + 1)) - 1)) - (nI 0)) else ((I (o + 5) k) - (nI 0))))) := by
          show ldAS I o t k (ldA I o t s0 k) = _
          rw [es]
          unfold ldAS
          rw [if_pos (show (t + 1) = 1 by omega), if_pos (show (t + 1) = 1 by omega)]
        refine a_locs (lv' := [(7, .int (nI (k + 1))), (4, .int ((I (o + 5) k) - (nI 0))), (5, .int ((I (o + 5) ((k + (t + 1)) - 1)) - (nI 0))), (0, .ref 64), (1, .ref o), (2, .int u), (3, .int (nI nl)), (6, .int (nI (t + 1)))]) [0, 2, 1, 4, 5, 6, 7, 8] rfl ?_
        exact ih (k + 1) (by omega) (((I (o + 5) k) - (nI 0)), ((I (o + 5) ((k + (t + 1)) - 1)) - (nI 0)), (va_up s.2.2 k (if ((I (o + 5) k) - (nI 0)) < ((I (o + 5) ((k + (t + 1)) - 1)) - (nI 0)) then ((I (o + 5) ((k + (t + 1)) - 1)) - (nI 0)) else ((I (o + 5) k) - (nI 0))))) ez9
def ldBS (I : mI) (o nl : Nat) (k : Nat) (s : Int32 × Int32 × (Nat → Int32)) : Int32 × Int32 × (Nat → Int32) := ((ldA I o k s (nl - k)).1, (ldA I o k s (nl - k)).2.1, ((ldA I o k s (nl - k)).2.2))
def ldB (I : mI) (o nl : Nat) (s0 : Int32 × Int32 × (Nat → Int32)) : Nat → Int32 × Int32 × (Nat → Int32)
  | 0 => s0
  | k + 1 => ldBS I o nl k (ldB I o nl s0 k)
theorem l_ldB {S : Nat × (Nat → Int32)} {d n : Nat} {I : mI} {J : mJ} {R : mR} (hn : 122 ≤ n) (hR : m_fin R) {o nh nl : Nat} (ho : o ∈ m_offs) (hr : offR R o) (hon : o + 8 < n) (hh : I o 0 = nI nh) (hnh : nh ≤ 6) (hl : I o 1 = nI nl) (hnl : nl ≤ 10) (hW : WFc I o nl) (hH : WFh (I (o + 2)) nl) {u : Int32}  {s0 : Int32 × Int32 × (Nat → Int32)} {Q : Option Value → mI → mJ → mR → Prop}  (hx : AW S (d + 1) YOrders_lead n n Q 151 [(6, .int (nI (nl + 1))), (4, .int (ldB I o nl s0 nl).1), (5, .int (ldB I o nl s0 nl).2.1), (0, .ref 64), (1, .ref o), (2, .int u), (3, .int (nI nl))] [] (m_row I 70 ((ldB I o nl s0 nl).2.2)) J R n) : ∀ m k, k + m = nl → ∀ s : Int32 × Int32 × (Nat → Int32), ldB I o nl s0 k = s → AW S (d + 1) YOrders_lead n n Q 42 [(6, .int (nI (k + 1))), (4, .int s.1), (5, .int s.2.1), (0, .ref 64), (1, .ref o), (2, .int u), (3, .int (nI nl))] [] (m_row I 70 s.2.2) J R n := by
  intro m
  induction m with
  | zero =>
    intro k hk9 s es
    rw [show k = nl by omega] at es ⊢
    subst es
    refine a_iload 0 dOrders_lead_42 rfl ?_
    refine a_iload_n 6 dOrders_lead_44 rfl rfl ?_
    refine a_icmp_gtN (tgt := 151) dOrders_lead_45 (by decide) (by omega) (by omega) (fun _ => ?_) (fun c => False.elim (by omega))
    exact hx
  | succ m ih =>
    intro k hk9 s es
    refine a_iload 0 dOrders_lead_42 rfl ?_
    refine a_iload_n 6 dOrders_lead_44 rfl rfl ?_
    refine a_icmp_gtN (tgt := 151) dOrders_lead_45 (by decide) (by omega) (by omega) (fun c => False.elim (by omega)) (fun _ => ?_)
    refine a_iconstN (a := 0) dOrders_lead_48 (by decide) ?_
    refine a_istore (lv' := [(7, .int (nI 0)), (6, .int (nI (k + 1))), (4, .int s.1), (5, .int s.2.1), (0, .ref 64), (1, .ref o), (2, .int u), (3, .int (nI nl))]) dOrders_lead_49 (by decide) rfl ?_
    refine a_locs (lv' := [(7, .int (nI 0)), (4, .int s.1), (5, .int s.2.1), (0, .ref 64), (1, .ref o), (2, .int u), (3, .int (nI nl)), (6, .int (nI (k + 1)))]) [0, 2, 3, 4, 5, 6, 7, 1] rfl ?_
    refine l_ldA (s0 := s) hn hR ho hr hon hh hnh hl hnl hW hH (t := k) (by omega) ?_ (nl - k) 0 (by omega) _ rfl
    refine a_iincN (lv' := [(6, .int (nI ((k + 1) + 1))), (7, .int (nI (nl - k))), (4, .int (ldA I o k s (nl - k)).1), (5, .int (ldA I o k s (nl - k)).2.1), (0, .ref 64), (1, .ref o), (2, .int u), (3, .int (nI nl))]) (j := 7) dOrders_lead_145 rfl (by decide) rfl ?_
    refine a_goto (tgt := 42) dOrders_lead_148 (by decide) ?_
    have ez9 : ldB I o nl s0 (k + 1) = ((ldA I o k s (nl - k)).1, (ldA I o k s (nl - k)).2.1, ((ldA I o k s (nl - k)).2.2)) := by
      show ldBS I o nl k (ldB I o nl s0 k) = _
      rw [es]
      unfold ldBS
      rfl
    refine a_locs (lv' := [(6, .int (nI ((k + 1) + 1))), (4, .int (ldA I o k s (nl - k)).1), (5, .int (ldA I o k s (nl - k)).2.1), (0, .ref 64), (1, .ref o), (2, .int u), (3, .int (nI nl))]) [0, 2, 3, 4, 5, 6, 7] rfl ?_
    exact ih (k + 1) (by omega) ((ldA I o k s (nl - k)).1, (ldA I o k s (nl - k)).2.1, ((ldA I o k s (nl - k)).2.2)) ez9
abbrev ldT (I : mI) (o nl : Nat) (f : Nat → Int32) : Int32 × Int32 × (Nat → Int32) := ldB I o nl (I (o + 5) 0, I (o + 5) 0, m_fill (fun _ => nI 0) f 10) nl
def ldR (I : mI) (o nl : Nat) (u : Int32) (f : Nat → Int32) : Int32 := if nl = 0 then (if u = 0 then 0 else -1) else if u = 0 then (ldT I o nl f).2.2 0 else if (ldT I o nl f).1 < (ldT I o nl f).2.1 then 1 else 0
def ldM (I : mI) (o nl : Nat) (f : Nat → Int32) : Nat → Int32 := if nl = 0 then f else (ldT I o nl f).2.2
theorem c_lead {S : Nat × (Nat → Int32)} {d n : Nat} {I : mI} {J : mJ} {R : mR} (hn : 122 ≤ n) (hR : m_fin R) {o nh nl : Nat} (ho : o ∈ m_offs) (hr : offR R o) (hon : o + 8 < n) (hh : I o 0 = nI nh) (hnh : nh ≤ 6) (hl : I o 1 = nI nl) (hnl : nl ≤ 10) (hW : WFc I o nl) (hH : WFh (I (o + 2)) nl) {u : Int32} {f : Nat → Int32}  : RUN S (d + 1) YOrders_lead [.ref 64, .ref o, .int u] (m_row I 70 f) J R n (some (.int (ldR I o nl u f))) (m_row I 70 (ldM I o nl f)) J R n := by
  show AW S _ YOrders_lead n n _ 0 [(0, .ref 64), (1, .ref o), (2, .int u)] [] (m_row I 70 f) J R n
  refine a_aload_n 1 dOrders_lead_0 rfl rfl ?_
  refine a_geti dOrders_lead_1 fl5_41 rfl (of_l0 ho) (by omega) ?_
  rw [show (m_row I 70 f) o 1 = (nI nl) from ((show (m_row I 70 f) o 1 = I o 1 by rw [m_row_ne (oc_ne0 ho (by decide))]).trans hl)]
  refine a_istore_n (lv' := [(3, .int (nI nl)), (0, .ref 64), (1, .ref o), (2, .int u)]) dOrders_lead_4 rfl (by decide) rfl ?_
  refine a_iload_n 0 dOrders_lead_5 rfl rfl ?_
  by_cases hz : nl = 0
  · refine a_if_ne (tgt := 19) dOrders_lead_6 (by decide) (fun c => False.elim (c (by rw [hz]; rfl))) (fun _ => ?_)
    refine a_iload_n 3 dOrders_lead_9 rfl rfl ?_
    refine a_if_eq (tgt := 17) dOrders_lead_10 (by decide) (fun c10 => ?_) (fun c10 => ?_)
    · refine a_iconstN (a := 0) dOrders_lead_17 (by decide) ?_
      exact a_iret dOrders_lead_18 rfl ⟨by unfold ldR; rw [if_pos hz, if_pos c10]; rfl, by unfold ldM; rw [if_pos hz], rfl, rfl⟩
    · refine a_iconst (v := -1) dOrders_lead_13 (by decide) ?_
      refine a_goto (tgt := 18) dOrders_lead_14 (by decide) ?_
      exact a_iret dOrders_lead_18 rfl ⟨by unfold ldR; rw [if_pos hz, if_neg c10], by unfold ldM; rw [if_pos hz], rfl, rfl⟩
  · refine a_if_ne (tgt := 19) dOrders_lead_6 (by decide) (fun _ => ?_) (fun c => False.elim (nI_ne0 (by omega) (by omega) c))
    refine a_aload_n 1 dOrders_lead_19 rfl rfl ?_
    refine a_geta (r := 70) dOrders_lead_20 fl5_27 rfl ly_64 (by omega) (rf_64_8 hR) ?_
    refine a_iconstN (a := 0) dOrders_lead_23 (by decide) ?_
    refine a_callS (Q' := m_res none (m_row I 70 (m_fill (fun _ => (nI 0)) f 10)) J R) (as := [.ref 70, .int (nI 0)]) (st := []) dOrders_lead_24 ml5_103 rfl (Nat.le_of_ble_eq_true rfl) (Nat.le_of_ble_eq_true rfl) rfl (Nat.le_refl _) (Nat.le_refl _) (by have h := c_Arrays_fill (S := S) (d := d) (n := n) (J := J) (R := R) (I := (m_row I 70 f)) (a := 70) (N := 10) (x := (nI 0)) ly_70 (by omega) (by decide); rw [m_row_row] at h; exact h) (m_go ?_)
    show AW _ _ _ _ _ _ _ _ [] _ _ _ _
    refine a_aload_n 2 dOrders_lead_27 rfl rfl ?_
    refine a_geta (r := (o + 5)) dOrders_lead_28 fl5_109 rfl (of_l0 ho) (by omega) (hr 4 (by decide)) ?_
    refine a_iconstN (a := 0) dOrders_lead_31 (by decide) ?_
    refine a_ialdN (a := 0) dOrders_lead_32 (of_l5 ho) (by omega) (by omega) (by decide) ?_
    rw [show (m_row I 70 (m_fill (fun _ => (nI 0)) f 10)) (o + 5) 0 = I (o + 5) 0 from (by rw [m_row_ne (oc_ne ho (by decide) (by decide))])]
    refine a_istore (lv' := [(4, .int (I (o + 5) 0)), (3, .int (nI nl)), (0, .ref 64), (1, .ref o), (2, .int u)]) dOrders_lead_33 (by decide) rfl ?_
    refine a_iload 0 dOrders_lead_35 rfl ?_
    refine a_istore (lv' := [(5, .int (I (o + 5) 0)), (4, .int (I (o + 5) 0)), (3, .int (nI nl)), (0, .ref 64), (1, .ref o), (2, .int u)]) dOrders_lead_37 (by decide) rfl ?_
    refine a_iconstN (a := 1) dOrders_lead_39 (by decide) ?_
    refine a_istore (lv' := [(6, .int (nI 1)), (5, .int (I (o + 5) 0)), (4, .int (I (o + 5) 0)), (3, .int (nI nl)), (0, .ref 64), (1, .ref o), (2, .int u)]) dOrders_lead_40 (by decide) rfl ?_
    refine a_locs (lv' := [(6, .int (nI 1)), (4, .int (I (o + 5) 0)), (5, .int (I (o + 5) 0)), (0, .ref 64), (1, .ref o), (2, .int u), (3, .int (nI nl))]) [0, 2, 1, 4, 5, 6, 3] rfl ?_
    refine l_ldB (s0 := (I (o + 5) 0, I (o + 5) 0, m_fill (fun _ => nI 0) f 10)) hn hR ho hr hon hh hnh hl hnl hW hH (u := u) ?_ nl 0 (by omega) _ rfl
    refine a_iload_n 5 dOrders_lead_151 rfl rfl ?_
    refine a_if_eq (tgt := 168) dOrders_lead_152 (by decide) (fun c152 => ?_) (fun c152 => ?_)
    · refine a_aload_n 3 dOrders_lead_168 rfl rfl ?_
      refine a_geta (r := 70) dOrders_lead_169 fl5_27 rfl ly_64 (by omega) (rf_64_8 hR) ?_
      refine a_iconstN (a := 0) dOrders_lead_172 (by decide) ?_
      refine a_ialdN (a := 0) dOrders_lead_173 ly_70 (by omega) (by omega) (by decide) ?_
      rw [show (m_row I 70 ((ldB I o nl (I (o + 5) 0, I (o + 5) 0, m_fill (fun _ => nI 0) f 10) nl).2.2)) 70 0 = (ldB I o nl (I (o + 5) 0, I (o + 5) 0, m_fill (fun _ => nI 0) f 10) nl).2.2 0 from rfl]
      exact a_iret dOrders_lead_174 rfl ⟨by unfold ldR; rw [if_neg hz, if_pos c152], by unfold ldM; rw [if_neg hz], rfl, rfl⟩
    · refine a_iload 1 dOrders_lead_155 rfl ?_
      refine a_iload 2 dOrders_lead_157 rfl ?_
      refine a_icmp_lt (tgt := 166) dOrders_lead_159 (by decide) (fun c159 => ?_) (fun c159 => ?_)
      · refine a_iconstN (a := 1) dOrders_lead_166 (by decide) ?_
        exact a_iret dOrders_lead_167 rfl ⟨by unfold ldR; rw [if_neg hz, if_neg c152, if_pos c159]; rfl, by unfold ldM; rw [if_neg hz], rfl, rfl⟩
      · refine a_iconstN (a := 0) dOrders_lead_162 (by decide) ?_
        refine a_goto (tgt := 167) dOrders_lead_163 (by decide) ?_
        exact a_iret dOrders_lead_167 rfl ⟨by unfold ldR; rw [if_neg hz, if_neg c152, if_neg c159]; rfl, by unfold ldM; rw [if_neg hz], rfl, rfl⟩
theorem M70_self {I : mI} : m_row I 70 (I 70) = I := m_row_self
theorem c_oaW {S : Nat × (Nat → Int32)} {d n : Nat} {I : mI} {J : mJ} {R : mR} {w : r5} (hn : 122 ≤ n) (hR : m_fin R) {k o : Nat} (h1 : f_of (nI k) (I 3 0) = 1) (hk : k < 2) (hro : R 4 k = some o) : RUN S (d + 1) YTold_officeAt [.ref 1, .int (nI k)] (oW I w) J R n (some (.ref o)) (oW I w) J R n := c_Told_officeAt1 hn hR (by rw [oW_n (by decide)]; exact h1) hk hro
theorem q_S_order0 {S : Nat × (Nat → Int32)} {d n : Nat} {I : mI} {J : mJ} {R : mR} (hn : 122 ≤ n) (hR : m_fin R) {x : Int32} (h0 : f_of x (I 3 0) = 0) {y u z : Int32}  : AW S (d + 6) YS_order n n (qV I R (.int (-1000))) 0 [(0, .ref 0), (1, .int x), (2, .int y), (3, .int u), (4, .int z)] [] I J R n := by
  refine a_aload_n 0 dS_order_0 rfl rfl ?_
  refine a_geta (r := 1) dS_order_1 fl11_10 rfl ly_0 (by omega) (rf_0_0 hR) ?_
  refine a_iload_n 1 dS_order_4 rfl rfl ?_
  refine a_callV (Q' := m_res (some (.null)) I J R) (as := [.int x]) (st := []) dS_order_5 ml11_101 rfl (Nat.le_of_ble_eq_true rfl) ly_1 rfl rfl (by decide) (by omega) (Nat.le_of_ble_eq_true rfl) rfl (Nat.le_refl _) (Nat.le_refl _) (c_Told_officeAt0 hn hR h0) (m_go ?_)
  show AW _ _ _ _ _ _ _ _ [.null] _ _ _ _
  refine a_astoreN (lv' := [(5, .null), (0, .ref 0), (1, .int x), (2, .int y), (3, .int u), (4, .int z)]) dS_order_8 (by decide) rfl ?_
  refine a_aloadN 0 dS_order_10 rfl ?_
  refine a_ifnullN (tgt := 37) dS_order_12 (by decide) ?_
  refine a_sipush (v := -1000) dS_order_37 (by decide) ?_
  exact a_iret dS_order_40 rfl ⟨rfl, KP.refl, (KF.refl hR)⟩
theorem q_S_order1 {S : Nat × (Nat → Int32)} {d n : Nat} {I : mI} {J : mJ} {R : mR} (hn : 122 ≤ n) (hR : m_fin R) {o nh nl : Nat} (ho : o ∈ m_offs) (hr : offR R o) (hon : o + 8 < n) (hh : I o 0 = nI nh) (hnh : nh ≤ 6) (hl : I o 1 = nI nl) (hnl : nl ≤ 10) (hW : WFc I o nl) (hH : WFh (I (o + 2)) nl) {k : Nat} (h1 : f_of (nI k) (I 3 0) = 1) (hk : k < 2) (hro : R 4 k = some o) {y : Int32} (hy : f_of y (nI nh) = 0) {u z : Int32}  : AW S (d + 6) YS_order n n (qV I R (.int (-1000))) 0 [(0, .ref 0), (1, .int (nI k)), (2, .int y), (3, .int u), (4, .int z)] [] I J R n := by
  refine a_aload_n 0 dS_order_0 rfl rfl ?_
  refine a_geta (r := 1) dS_order_1 fl11_10 rfl ly_0 (by omega) (rf_0_0 hR) ?_
  refine a_iload_n 1 dS_order_4 rfl rfl ?_
  refine a_callV (Q' := m_res (some (.ref o)) I J R) (as := [.int (nI k)]) (st := []) dS_order_5 ml11_101 rfl (Nat.le_of_ble_eq_true rfl) ly_1 rfl rfl (by decide) (by omega) (Nat.le_of_ble_eq_true rfl) rfl (Nat.le_refl _) (Nat.le_refl _) (c_Told_officeAt1 hn hR h1 hk hro) (m_go ?_)
  show AW _ _ _ _ _ _ _ _ [.ref o] _ _ _ _
  refine a_astore (lv' := [(5, .ref o), (0, .ref 0), (1, .int (nI k)), (2, .int y), (3, .int u), (4, .int z)]) dS_order_8 (by decide) rfl ?_
  refine a_aload 0 dS_order_10 rfl ?_
  refine a_ifnull dS_order_12 ?_
  refine a_aload 0 dS_order_15 rfl ?_
  refine a_iload_n 3 dS_order_17 rfl rfl ?_
  refine a_callV (Q' := m_res (some (.int (f_of y (nI nh)))) I J R) (as := [.int y]) (st := []) dS_order_18 ml11_135 rfl (Nat.le_of_ble_eq_true rfl) (of_l0 ho) rfl rfl (by decide) (by omega) (Nat.le_of_ble_eq_true rfl) rfl (Nat.le_refl _) (Nat.le_refl _) (by have h := c_Office_hasHouse (S := S) (d := d + 5) (n := n) (J := J) (R := R) (I := I) (h := y) ho hr hon; rw [hh] at h; exact h) (m_go ?_)
  show AW _ _ _ _ _ _ _ _ [.int (f_of y (nI nh))] _ _ _ _
  refine a_if_eq (tgt := 37) dS_order_21 (by decide) (fun _ => ?_) (fun c => False.elim (c hy))
  refine a_sipush (v := -1000) dS_order_37 (by decide) ?_
  exact a_iret dS_order_40 rfl ⟨rfl, KP.refl, (KF.refl hR)⟩
theorem q_S_order2 {S : Nat × (Nat → Int32)} {d n : Nat} {I : mI} {J : mJ} {R : mR} (hn : 122 ≤ n) (hR : m_fin R) {o nh nl : Nat} (ho : o ∈ m_offs) (hr : offR R o) (hon : o + 8 < n) (hh : I o 0 = nI nh) (hnh : nh ≤ 6) (hl : I o 1 = nI nl) (hnl : nl ≤ 10) (hW : WFc I o nl) (hH : WFh (I (o + 2)) nl) {k : Nat} (h1 : f_of (nI k) (I 3 0) = 1) (hk : k < 2) (hro : R 4 k = some o) {h : Nat} (hh6 : h < nh) {u z : Int32} (hz : z < -1 ∨ nI 10 ≤ z)  : AW S (d + 6) YS_order n n (qV I R (.int (-1000))) 0 [(0, .ref 0), (1, .int (nI k)), (2, .int (nI h)), (3, .int u), (4, .int z)] [] I J R n := by
  refine a_aload_n 0 dS_order_0 rfl rfl ?_
  refine a_geta (r := 1) dS_order_1 fl11_10 rfl ly_0 (by omega) (rf_0_0 hR) ?_
  refine a_iload_n 1 dS_order_4 rfl rfl ?_
  refine a_callV (Q' := m_res (some (.ref o)) I J R) (as := [.int (nI k)]) (st := []) dS_order_5 ml11_101 rfl (Nat.le_of_ble_eq_true rfl) ly_1 rfl rfl (by decide) (by omega) (Nat.le_of_ble_eq_true rfl) rfl (Nat.le_refl _) (Nat.le_refl _) (c_Told_officeAt1 hn hR h1 hk hro) (m_go ?_)
  show AW _ _ _ _ _ _ _ _ [.ref o] _ _ _ _
  refine a_astore (lv' := [(5, .ref o), (0, .ref 0), (1, .int (nI k)), (2, .int (nI h)), (3, .int u), (4, .int z)]) dS_order_8 (by decide) rfl ?_
  refine a_aload 0 dS_order_10 rfl ?_
  refine a_ifnull dS_order_12 ?_
  refine a_aload 0 dS_order_15 rfl ?_
  refine a_iload_n 3 dS_order_17 rfl rfl ?_
  refine a_callV (Q' := m_res (some (.int (f_of (nI h) (nI nh)))) I J R) (as := [.int (nI h)]) (st := []) dS_order_18 ml11_135 rfl (Nat.le_of_ble_eq_true rfl) (of_l0 ho) rfl rfl (by decide) (by omega) (Nat.le_of_ble_eq_true rfl) rfl (Nat.le_refl _) (Nat.le_refl _) (by have h := c_Office_hasHouse (S := S) (d := d + 5) (n := n) (J := J) (R := R) (I := I) (h := (nI h)) ho hr hon; rw [hh] at h; exact h) (m_go ?_)
  show AW _ _ _ _ _ _ _ _ [.int (f_of (nI h) (nI nh))] _ _ _ _
  refine a_if_eq (tgt := 37) dS_order_21 (by decide) (fun c => False.elim (absurd c (by rw [f_of_n (by omega) hh6]; decide))) (fun _ => ?_)
  refine a_iload 5 dS_order_24 rfl ?_
  refine a_iconst (v := -1) dS_order_26 (by decide) ?_
  refine a_icmp_lt (tgt := 37) dS_order_27 (by decide) (fun c27 => ?_) (fun c27 => ?_)
  · refine a_sipush (v := -1000) dS_order_37 (by decide) ?_
    exact a_iret dS_order_40 rfl ⟨rfl, KP.refl, (KF.refl hR)⟩
  · refine a_iload 5 dS_order_30 rfl ?_
    refine a_bipushN (a := 10) dS_order_32 (by decide) ?_
    refine a_icmp_lt (tgt := 41) dS_order_34 (by decide) (fun c34 => ?_) (fun c34 => ?_)
    · exfalso
      rcases hz with h | h
      · exact c27 h
      · exact absurd c34 (Int32.not_lt.mpr h)
    · refine a_sipush (v := -1000) dS_order_37 (by decide) ?_
      exact a_iret dS_order_40 rfl ⟨rfl, KP.refl, (KF.refl hR)⟩
theorem q_S_order3 {S : Nat × (Nat → Int32)} {d n : Nat} {I : mI} {J : mJ} {R : mR} (hn : 122 ≤ n) (hR : m_fin R) {o nh nl : Nat} (ho : o ∈ m_offs) (hr : offR R o) (hon : o + 8 < n) (hh : I o 0 = nI nh) (hnh : nh ≤ 6) (hl : I o 1 = nI nl) (hnl : nl ≤ 10) (hW : WFc I o nl) (hH : WFh (I (o + 2)) nl) {k : Nat} (h1 : f_of (nI k) (I 3 0) = 1) (hk : k < 2) (hro : R 4 k = some o) {h : Nat} (hh6 : h < nh) {u : Int32}  : AW S (d + 6) YS_order n n (qV I R (.int (moX I o nl h (-1) (sgU u) (w5 I)))) 0 [(0, .ref 0), (1, .int (nI k)), (2, .int (nI h)), (3, .int u), (4, .int (-1))] [] I J R n := by
  rw [show AW S (d + 6) YS_order n n (qV I R (.int (moX I o nl h (-1) (sgU u) (w5 I)))) 0 [(0, .ref 0), (1, .int (nI k)), (2, .int (nI h)), (3, .int u), (4, .int (-1))] [] I J R n = AW S (d + 6) YS_order n n (qV I R (.int (moX I o nl h (-1) (sgU u) (w5 I)))) 0 [(0, .ref 0), (1, .int (nI k)), (2, .int (nI h)), (3, .int u), (4, .int (-1))] [] (oW I (w5 I)) J R n from by rw [oW_self]]
  refine a_aload_n 0 dS_order_0 rfl rfl ?_
  refine a_geta (r := 1) dS_order_1 fl11_10 rfl ly_0 (by omega) (rf_0_0 hR) ?_
  refine a_iload_n 1 dS_order_4 rfl rfl ?_
  refine a_callV (Q' := m_res (some (.ref o)) (oW I (w5 I)) J R) (as := [.int (nI k)]) (st := []) dS_order_5 ml11_101 rfl (Nat.le_of_ble_eq_true rfl) ly_1 rfl rfl (by decide) (by omega) (Nat.le_of_ble_eq_true rfl) rfl (Nat.le_refl _) (Nat.le_refl _) (c_oaW hn hR h1 hk hro) (m_go ?_)
  show AW _ _ _ _ _ _ _ _ [.ref o] _ _ _ _
  refine a_astore (lv' := [(5, .ref o), (0, .ref 0), (1, .int (nI k)), (2, .int (nI h)), (3, .int u), (4, .int (-1))]) dS_order_8 (by decide) rfl ?_
  refine a_aload 0 dS_order_10 rfl ?_
  refine a_ifnull dS_order_12 ?_
  refine a_aload 0 dS_order_15 rfl ?_
  refine a_iload_n 3 dS_order_17 rfl rfl ?_
  refine a_callV (Q' := m_res (some (.int (f_of (nI h) (nI nh)))) (oW I (w5 I)) J R) (as := [.int (nI h)]) (st := []) dS_order_18 ml11_135 rfl (Nat.le_of_ble_eq_true rfl) (of_l0 ho) rfl rfl (by decide) (by omega) (Nat.le_of_ble_eq_true rfl) rfl (Nat.le_refl _) (Nat.le_refl _) (by have h := c_Office_hasHouse (S := S) (d := d + 5) (n := n) (J := J) (R := R) (I := (oW I (w5 I))) (h := (nI h)) ho hr hon; rw [oW_o0 ho, hh] at h; exact h) (m_go ?_)
  show AW _ _ _ _ _ _ _ _ [.int (f_of (nI h) (nI nh))] _ _ _ _
  refine a_if_eq (tgt := 37) dS_order_21 (by decide) (fun c => False.elim (absurd c (by rw [f_of_n (by omega) hh6]; decide))) (fun _ => ?_)
  refine a_iload 5 dS_order_24 rfl ?_
  refine a_iconst (v := -1) dS_order_26 (by decide) ?_
  refine a_icmp_lt (tgt := 37) dS_order_27 (by decide) (fun c => False.elim (absurd c (by decide))) (fun _ => ?_)
  refine a_iload 5 dS_order_30 rfl ?_
  refine a_bipushN (a := 10) dS_order_32 (by decide) ?_
  refine a_icmp_lt (tgt := 41) dS_order_34 (by decide) (fun _ => ?_) (fun c => False.elim (absurd c (by decide)))
  refine a_aload_n 1 dS_order_41 rfl rfl ?_
  refine a_geta (r := 64) dS_order_42 fl11_37 rfl ly_0 (by omega) (rf_0_4 hR) ?_
  refine a_aload 0 dS_order_45 rfl ?_
  refine a_iload_n 3 dS_order_47 rfl rfl ?_
  refine a_iconst (v := -1) dS_order_48 (by decide) ?_
  refine a_iload_n 4 dS_order_49 rfl rfl ?_
  refine a_callV (Q' := m_res (some (.int (moX I o nl h (-1) (sgU u) (w5 I)))) (oW I (moR I o nl h (-1) (sgU u) (w5 I))) J R) (as := [.ref o, .int (nI h), .int (-1), .int u]) (st := []) dS_order_50 ml11_138 rfl (Nat.le_of_ble_eq_true rfl) ly_64 rfl rfl (by decide) (by omega) (Nat.le_of_ble_eq_true rfl) rfl (Nat.le_refl _) (Nat.le_refl _) (by have h := c_moodOf (S := S) (d := d + 2) (n := n) (J := J) (R := R) (I := I) (o := o) (w := (w5 I)) (wo := (-1)) (u := u) hn hR ho hr hon hh hnh hl hnl hW hH (h := h) (by omega); exact h) (m_go ?_)
  show AW _ _ _ _ _ _ _ _ [.int (moX I o nl h (-1) (sgU u) (w5 I))] _ _ _ _
  refine a_istore (lv' := [(6, .int (moX I o nl h (-1) (sgU u) (w5 I))), (5, .ref o), (0, .ref 0), (1, .int (nI k)), (2, .int (nI h)), (3, .int u), (4, .int (-1))]) dS_order_53 (by decide) rfl ?_
  refine a_iload 6 dS_order_55 rfl ?_
  refine a_iconst (v := -1) dS_order_57 (by decide) ?_
  refine a_icmp_ne (tgt := 66) dS_order_58 (by decide) (fun c => False.elim (c rfl)) (fun _ => ?_)
  refine a_iload 0 dS_order_61 rfl ?_
  refine a_goto (tgt := 75) dS_order_63 (by decide) ?_
  exact a_iret dS_order_75 rfl ⟨rfl, KP.oW (fun _ _ => rfl) (fun j hj => moR_lo hj), KF.refl hR⟩
theorem q_S_order4 {S : Nat × (Nat → Int32)} {d n : Nat} {I : mI} {J : mJ} {R : mR} (hn : 122 ≤ n) (hR : m_fin R) {o nh nl : Nat} (ho : o ∈ m_offs) (hr : offR R o) (hon : o + 8 < n) (hh : I o 0 = nI nh) (hnh : nh ≤ 6) (hl : I o 1 = nI nl) (hnl : nl ≤ 10) (hW : WFc I o nl) (hH : WFh (I (o + 2)) nl) {k : Nat} (h1 : f_of (nI k) (I 3 0) = 1) (hk : k < 2) (hro : R 4 k = some o) {h : Nat} (hh6 : h < nh) {u : Int32} {K : Nat} (hK : K < 10)  : AW S (d + 6) YS_order n n (qV I R (.int (laR (moR I o nl h (-1) (sgU u) (w5 I)) (grT I o h nl (-1) (sgU u) (I 65) (I 66) (I 67)).1 K))) 0 [(0, .ref 0), (1, .int (nI k)), (2, .int (nI h)), (3, .int u), (4, .int (nI K))] [] I J R n := by
  have kOK_lo9 : ¬ nI K < -1 := fun c => by have := Int32.lt_iff_toInt_lt.mp c; rw [nI_toInt (by omega)] at this; have e : (-1 : Int32).toInt = -1 := rfl; omega
  rw [show AW S (d + 6) YS_order n n (qV I R (.int (laR (moR I o nl h (-1) (sgU u) (w5 I)) (grT I o h nl (-1) (sgU u) (I 65) (I 66) (I 67)).1 K))) 0 [(0, .ref 0), (1, .int (nI k)), (2, .int (nI h)), (3, .int u), (4, .int (nI K))] [] I J R n = AW S (d + 6) YS_order n n (qV I R (.int (laR (moR I o nl h (-1) (sgU u) (w5 I)) (grT I o h nl (-1) (sgU u) (I 65) (I 66) (I 67)).1 K))) 0 [(0, .ref 0), (1, .int (nI k)), (2, .int (nI h)), (3, .int u), (4, .int (nI K))] [] (oW I (w5 I)) J R n from by rw [oW_self]]
  refine a_aload_n 0 dS_order_0 rfl rfl ?_
  refine a_geta (r := 1) dS_order_1 fl11_10 rfl ly_0 (by omega) (rf_0_0 hR) ?_
  refine a_iload_n 1 dS_order_4 rfl rfl ?_
  refine a_callV (Q' := m_res (some (.ref o)) (oW I (w5 I)) J R) (as := [.int (nI k)]) (st := []) dS_order_5 ml11_101 rfl (Nat.le_of_ble_eq_true rfl) ly_1 rfl rfl (by decide) (by omega) (Nat.le_of_ble_eq_true rfl) rfl (Nat.le_refl _) (Nat.le_refl _) (c_oaW hn hR h1 hk hro) (m_go ?_)
  show AW _ _ _ _ _ _ _ _ [.ref o] _ _ _ _
  refine a_astore (lv' := [(5, .ref o), (0, .ref 0), (1, .int (nI k)), (2, .int (nI h)), (3, .int u), (4, .int (nI K))]) dS_order_8 (by decide) rfl ?_
  refine a_aload 0 dS_order_10 rfl ?_
  refine a_ifnull dS_order_12 ?_
  refine a_aload 0 dS_order_15 rfl ?_
  refine a_iload_n 3 dS_order_17 rfl rfl ?_
  refine a_callV (Q' := m_res (some (.int (f_of (nI h) (nI nh)))) (oW I (w5 I)) J R) (as := [.int (nI h)]) (st := []) dS_order_18 ml11_135 rfl (Nat.le_of_ble_eq_true rfl) (of_l0 ho) rfl rfl (by decide) (by omega) (Nat.le_of_ble_eq_true rfl) rfl (Nat.le_refl _) (Nat.le_refl _) (by have h := c_Office_hasHouse (S := S) (d := d + 5) (n := n) (J := J) (R := R) (I := (oW I (w5 I))) (h := (nI h)) ho hr hon; rw [oW_o0 ho, hh] at h; exact h) (m_go ?_)
  show AW _ _ _ _ _ _ _ _ [.int (f_of (nI h) (nI nh))] _ _ _ _
  refine a_if_eq (tgt := 37) dS_order_21 (by decide) (fun c => False.elim (absurd c (by rw [f_of_n (by omega) hh6]; decide))) (fun _ => ?_)
  refine a_iload 5 dS_order_24 rfl ?_
  refine a_iconst (v := -1) dS_order_26 (by decide) ?_
  refine a_icmp_lt (tgt := 37) dS_order_27 (by decide) (fun c => False.elim (kOK_lo9 c)) (fun _ => ?_)
  refine a_iload 5 dS_order_30 rfl ?_
  refine a_bipushN (a := 10) dS_order_32 (by decide) ?_
  refine a_icmp_ltN (tgt := 41) dS_order_34 (by decide) (by omega) (by omega) (fun _ => ?_) (fun c => False.elim (by omega))
  refine a_aload_n 1 dS_order_41 rfl rfl ?_
  refine a_geta (r := 64) dS_order_42 fl11_37 rfl ly_0 (by omega) (rf_0_4 hR) ?_
  refine a_aload 0 dS_order_45 rfl ?_
  refine a_iload_n 3 dS_order_47 rfl rfl ?_
  refine a_iconst (v := -1) dS_order_48 (by decide) ?_
  refine a_iload_n 4 dS_order_49 rfl rfl ?_
  refine a_callV (Q' := m_res (some (.int (moX I o nl h (-1) (sgU u) (w5 I)))) (oW I (moR I o nl h (-1) (sgU u) (w5 I))) J R) (as := [.ref o, .int (nI h), .int (-1), .int u]) (st := []) dS_order_50 ml11_138 rfl (Nat.le_of_ble_eq_true rfl) ly_64 rfl rfl (by decide) (by omega) (Nat.le_of_ble_eq_true rfl) rfl (Nat.le_refl _) (Nat.le_refl _) (by have h := c_moodOf (S := S) (d := d + 2) (n := n) (J := J) (R := R) (I := I) (o := o) (w := (w5 I)) (wo := (-1)) (u := u) hn hR ho hr hon hh hnh hl hnl hW hH (h := h) (by omega); exact h) (m_go ?_)
  show AW _ _ _ _ _ _ _ _ [.int (moX I o nl h (-1) (sgU u) (w5 I))] _ _ _ _
  refine a_istore (lv' := [(6, .int (moX I o nl h (-1) (sgU u) (w5 I))), (5, .ref o), (0, .ref 0), (1, .int (nI k)), (2, .int (nI h)), (3, .int u), (4, .int (nI K))]) dS_order_53 (by decide) rfl ?_
  refine a_iload 6 dS_order_55 rfl ?_
  refine a_iconst (v := -1) dS_order_57 (by decide) ?_
  refine a_icmp_ne (tgt := 66) dS_order_58 (by decide) (fun _ => ?_) (fun c => False.elim (nI_m1 (by omega) c))
  refine a_aload_n 2 dS_order_66 rfl rfl ?_
  refine a_geta (r := 64) dS_order_67 fl11_37 rfl ly_0 (by omega) (rf_0_4 hR) ?_
  refine a_iload 6 dS_order_70 rfl ?_
  refine a_callV (Q' := m_res (some (.int (laR (moR I o nl h (-1) (sgU u) (w5 I)) (grT I o h nl (-1) (sgU u) (I 65) (I 66) (I 67)).1 K))) (oW I (moR I o nl h (-1) (sgU u) (w5 I))) J R) (as := [.int (nI K)]) (st := []) dS_order_72 ml11_142 rfl (Nat.le_of_ble_eq_true rfl) ly_64 rfl rfl (by decide) (by omega) (Nat.le_of_ble_eq_true rfl) rfl (Nat.le_refl _) (Nat.le_refl _) (c_letterAt hn hR (w := moR I o nl h (-1) (sgU u) (w5 I)) (sz := (grT I o h nl (-1) (sgU u) (I 65) (I 66) (I 67)).1) rfl (Nat.le_trans (grA_le nl) hnl) (grA_k4 hW nl (Nat.le_refl _)) (by omega)) (m_go ?_)
  show AW _ _ _ _ _ _ _ _ [.int (laR (moR I o nl h (-1) (sgU u) (w5 I)) (grT I o h nl (-1) (sgU u) (I 65) (I 66) (I 67)).1 K)] _ _ _ _
  exact a_iret dS_order_75 rfl ⟨rfl, KP.oW (fun _ _ => rfl) (fun j hj => moR_lo hj), KF.refl hR⟩
theorem q_S_dear0 {S : Nat × (Nat → Int32)} {d n : Nat} {I : mI} {J : mJ} {R : mR} (hn : 122 ≤ n) (hR : m_fin R) {x : Int32} (h0 : f_of x (I 3 0) = 0) {y : Int32}  : AW S (d + 6) YS_dear n n (qV I R (.int (-1000))) 0 [(0, .ref 0), (1, .int x), (2, .int y)] [] I J R n := by
  refine a_aload_n 0 dS_dear_0 rfl rfl ?_
  refine a_geta (r := 1) dS_dear_1 fl11_10 rfl ly_0 (by omega) (rf_0_0 hR) ?_
  refine a_iload_n 1 dS_dear_4 rfl rfl ?_
  refine a_callV (Q' := m_res (some (.null)) I J R) (as := [.int x]) (st := []) dS_dear_5 ml11_101 rfl (Nat.le_of_ble_eq_true rfl) ly_1 rfl rfl (by decide) (by omega) (Nat.le_of_ble_eq_true rfl) rfl (Nat.le_refl _) (Nat.le_refl _) (c_Told_officeAt0 hn hR h0) (m_go ?_)
  show AW _ _ _ _ _ _ _ _ [.null] _ _ _ _
  refine a_astore_nN (lv' := [(3, .null), (0, .ref 0), (1, .int x), (2, .int y)]) dS_dear_8 rfl (by decide) rfl ?_
  refine a_aload_nN 0 dS_dear_9 rfl rfl ?_
  refine a_ifnullN (tgt := 21) dS_dear_10 (by decide) ?_
  refine a_sipush (v := -1000) dS_dear_21 (by decide) ?_
  exact a_iret dS_dear_24 rfl ⟨rfl, KP.refl, (KF.refl hR)⟩
theorem q_S_dear1 {S : Nat × (Nat → Int32)} {d n : Nat} {I : mI} {J : mJ} {R : mR} (hn : 122 ≤ n) (hR : m_fin R) {o nh nl : Nat} (ho : o ∈ m_offs) (hr : offR R o) (hon : o + 8 < n) (hh : I o 0 = nI nh) (hnh : nh ≤ 6) (hl : I o 1 = nI nl) (hnl : nl ≤ 10) (hW : WFc I o nl) (hH : WFh (I (o + 2)) nl) {k : Nat} (h1 : f_of (nI k) (I 3 0) = 1) (hk : k < 2) (hro : R 4 k = some o) {y : Int32} (hy : f_of y (nI nl) = 0)  : AW S (d + 6) YS_dear n n (qV I R (.int (-1000))) 0 [(0, .ref 0), (1, .int (nI k)), (2, .int y)] [] I J R n := by
  refine a_aload_n 0 dS_dear_0 rfl rfl ?_
  refine a_geta (r := 1) dS_dear_1 fl11_10 rfl ly_0 (by omega) (rf_0_0 hR) ?_
  refine a_iload_n 1 dS_dear_4 rfl rfl ?_
  refine a_callV (Q' := m_res (some (.ref o)) I J R) (as := [.int (nI k)]) (st := []) dS_dear_5 ml11_101 rfl (Nat.le_of_ble_eq_true rfl) ly_1 rfl rfl (by decide) (by omega) (Nat.le_of_ble_eq_true rfl) rfl (Nat.le_refl _) (Nat.le_refl _) (c_Told_officeAt1 hn hR h1 hk hro) (m_go ?_)
  show AW _ _ _ _ _ _ _ _ [.ref o] _ _ _ _
  refine a_astore_n (lv' := [(3, .ref o), (0, .ref 0), (1, .int (nI k)), (2, .int y)]) dS_dear_8 rfl (by decide) rfl ?_
  refine a_aload_n 0 dS_dear_9 rfl rfl ?_
  refine a_ifnull dS_dear_10 ?_
  refine a_aload_n 0 dS_dear_13 rfl rfl ?_
  refine a_iload_n 3 dS_dear_14 rfl rfl ?_
  refine a_callV (Q' := m_res (some (.int (f_of y (nI nl)))) I J R) (as := [.int y]) (st := []) dS_dear_15 ml11_111 rfl (Nat.le_of_ble_eq_true rfl) (of_l0 ho) rfl rfl (by decide) (by omega) (Nat.le_of_ble_eq_true rfl) rfl (Nat.le_refl _) (Nat.le_refl _) (by have h := c_Office_hasLetter (S := S) (d := d + 5) (n := n) (J := J) (R := R) (I := I) (h := y) ho hr hon; rw [hl] at h; exact h) (m_go ?_)
  show AW _ _ _ _ _ _ _ _ [.int (f_of y (nI nl))] _ _ _ _
  refine a_if_ne (tgt := 25) dS_dear_18 (by decide) (fun c => False.elim (c hy)) (fun _ => ?_)
  refine a_sipush (v := -1000) dS_dear_21 (by decide) ?_
  exact a_iret dS_dear_24 rfl ⟨rfl, KP.refl, (KF.refl hR)⟩
theorem q_S_dear2 {S : Nat × (Nat → Int32)} {d n : Nat} {I : mI} {J : mJ} {R : mR} (hn : 122 ≤ n) (hR : m_fin R) {o nh nl : Nat} (ho : o ∈ m_offs) (hr : offR R o) (hon : o + 8 < n) (hh : I o 0 = nI nh) (hnh : nh ≤ 6) (hl : I o 1 = nI nl) (hnl : nl ≤ 10) (hW : WFc I o nl) (hH : WFh (I (o + 2)) nl) {k : Nat} (h1 : f_of (nI k) (I 3 0) = 1) (hk : k < 2) (hro : R 4 k = some o) (hHh : ∀ l, l < nl → hmN (I (o + 2)) l < nh) {l : Nat} (hln : l < nl)  : AW S (d + 6) YS_dear n n (qV I R (.int ((moX I o nl (hmN (I (o + 2)) l) (-1) (sgU (nI 0)) (w5 I)) - (moX I o nl (hmN (I (o + 2)) l) (nI l) (sgU (nI 0)) (moR I o nl (hmN (I (o + 2)) l) (-1) (sgU (nI 0)) (w5 I)))))) 0 [(0, .ref 0), (1, .int (nI k)), (2, .int (nI l))] [] I J R n := by
  have hq9 := hHh l hln
  rw [show AW S (d + 6) YS_dear n n (qV I R (.int ((moX I o nl (hmN (I (o + 2)) l) (-1) (sgU (nI 0)) (w5 I)) - (moX I o nl (hmN (I (o + 2)) l) (nI l) (sgU (nI 0)) (moR I o nl (hmN (I (o + 2)) l) (-1) (sgU (nI 0)) (w5 I)))))) 0 [(0, .ref 0), (1, .int (nI k)), (2, .int (nI l))] [] I J R n = AW S (d + 6) YS_dear n n (qV I R (.int ((moX I o nl (hmN (I (o + 2)) l) (-1) (sgU (nI 0)) (w5 I)) - (moX I o nl (hmN (I (o + 2)) l) (nI l) (sgU (nI 0)) (moR I o nl (hmN (I (o + 2)) l) (-1) (sgU (nI 0)) (w5 I)))))) 0 [(0, .ref 0), (1, .int (nI k)), (2, .int (nI l))] [] (oW I (w5 I)) J R n from by rw [oW_self]]
  refine a_aload_n 0 dS_dear_0 rfl rfl ?_
  refine a_geta (r := 1) dS_dear_1 fl11_10 rfl ly_0 (by omega) (rf_0_0 hR) ?_
  refine a_iload_n 1 dS_dear_4 rfl rfl ?_
  refine a_callV (Q' := m_res (some (.ref o)) (oW I (w5 I)) J R) (as := [.int (nI k)]) (st := []) dS_dear_5 ml11_101 rfl (Nat.le_of_ble_eq_true rfl) ly_1 rfl rfl (by decide) (by omega) (Nat.le_of_ble_eq_true rfl) rfl (Nat.le_refl _) (Nat.le_refl _) (c_oaW hn hR h1 hk hro) (m_go ?_)
  show AW _ _ _ _ _ _ _ _ [.ref o] _ _ _ _
  refine a_astore_n (lv' := [(3, .ref o), (0, .ref 0), (1, .int (nI k)), (2, .int (nI l))]) dS_dear_8 rfl (by decide) rfl ?_
  refine a_aload_n 0 dS_dear_9 rfl rfl ?_
  refine a_ifnull dS_dear_10 ?_
  refine a_aload_n 0 dS_dear_13 rfl rfl ?_
  refine a_iload_n 3 dS_dear_14 rfl rfl ?_
  refine a_callV (Q' := m_res (some (.int (f_of (nI l) (nI nl)))) (oW I (w5 I)) J R) (as := [.int (nI l)]) (st := []) dS_dear_15 ml11_111 rfl (Nat.le_of_ble_eq_true rfl) (of_l0 ho) rfl rfl (by decide) (by omega) (Nat.le_of_ble_eq_true rfl) rfl (Nat.le_refl _) (Nat.le_refl _) (by have h := c_Office_hasLetter (S := S) (d := d + 5) (n := n) (J := J) (R := R) (I := (oW I (w5 I))) (h := (nI l)) ho hr hon; rw [oW_o0 ho, hl] at h; exact h) (m_go ?_)
  show AW _ _ _ _ _ _ _ _ [.int (f_of (nI l) (nI nl))] _ _ _ _
  refine a_if_ne (tgt := 25) dS_dear_18 (by decide) (fun _ => ?_) (fun c => False.elim (absurd c (by rw [f_of_n (by omega) hln]; decide)))
  refine a_aload_n 0 dS_dear_25 rfl rfl ?_
  refine a_geta (r := (o + 2)) dS_dear_26 fl11_209 rfl (of_l0 ho) (by omega) (hr 1 (by decide)) ?_
  refine a_iload_n 3 dS_dear_29 rfl rfl ?_
  refine a_ialdN (a := l) dS_dear_30 (of_l2 ho) (by omega) (by omega) (by decide) ?_
  rw [show (oW I (w5 I)) (o + 2) l = I (o + 2) l from (by rw [oW_o ho 2 (by decide)])]
  rw [show (I (o + 2) l) = (nI (hmN (I (o + 2)) l)) from (hH.hm hln).1]
  refine a_istore (lv' := [(4, .int (nI (hmN (I (o + 2)) l))), (3, .ref o), (0, .ref 0), (1, .int (nI k)), (2, .int (nI l))]) dS_dear_31 (by decide) rfl ?_
  refine a_aload_n 2 dS_dear_33 rfl rfl ?_
  refine a_geta (r := 64) dS_dear_34 fl11_37 rfl ly_0 (by omega) (rf_0_4 hR) ?_
  refine a_aload_n 1 dS_dear_37 rfl rfl ?_
  refine a_iload 0 dS_dear_38 rfl ?_
  refine a_iconst (v := -1) dS_dear_40 (by decide) ?_
  refine a_iconstN (a := 0) dS_dear_41 (by decide) ?_
  refine a_callV (Q' := m_res (some (.int (moX I o nl (hmN (I (o + 2)) l) (-1) (sgU (nI 0)) (w5 I)))) (oW I (moR I o nl (hmN (I (o + 2)) l) (-1) (sgU (nI 0)) (w5 I))) J R) (as := [.ref o, .int (nI (hmN (I (o + 2)) l)), .int (-1), .int (nI 0)]) (st := []) dS_dear_42 ml11_138 rfl (Nat.le_of_ble_eq_true rfl) ly_64 rfl rfl (by decide) (by omega) (Nat.le_of_ble_eq_true rfl) rfl (Nat.le_refl _) (Nat.le_refl _) (by have h := c_moodOf (S := S) (d := d + 2) (n := n) (J := J) (R := R) (I := I) (o := o) (w := (w5 I)) (wo := (-1)) (u := (nI 0)) hn hR ho hr hon hh hnh hl hnl hW hH (h := (hmN (I (o + 2)) l)) (by omega); exact h) (m_go ?_)
  show AW _ _ _ _ _ _ _ _ [.int (moX I o nl (hmN (I (o + 2)) l) (-1) (sgU (nI 0)) (w5 I))] _ _ _ _
  refine a_aload_n 2 dS_dear_45 rfl rfl ?_
  refine a_geta (r := 64) dS_dear_46 fl11_37 rfl ly_0 (by omega) (rf_0_4 hR) ?_
  refine a_aload_n 1 dS_dear_49 rfl rfl ?_
  refine a_iload 0 dS_dear_50 rfl ?_
  refine a_iload_n 4 dS_dear_52 rfl rfl ?_
  refine a_iconstN (a := 0) dS_dear_53 (by decide) ?_
  refine a_callV (Q' := m_res (some (.int (moX I o nl (hmN (I (o + 2)) l) (nI l) (sgU (nI 0)) (moR I o nl (hmN (I (o + 2)) l) (-1) (sgU (nI 0)) (w5 I))))) (oW I (moR I o nl (hmN (I (o + 2)) l) (nI l) (sgU (nI 0)) (moR I o nl (hmN (I (o + 2)) l) (-1) (sgU (nI 0)) (w5 I)))) J R) (as := [.ref o, .int (nI (hmN (I (o + 2)) l)), .int (nI l), .int (nI 0)]) (st := [.int (moX I o nl (hmN (I (o + 2)) l) (-1) (sgU (nI 0)) (w5 I))]) dS_dear_54 ml11_138 rfl (Nat.le_of_ble_eq_true rfl) ly_64 rfl rfl (by decide) (by omega) (Nat.le_of_ble_eq_true rfl) rfl (Nat.le_refl _) (Nat.le_refl _) (by have h := c_moodOf (S := S) (d := d + 2) (n := n) (J := J) (R := R) (I := I) (o := o) (w := (moR I o nl (hmN (I (o + 2)) l) (-1) (sgU (nI 0)) (w5 I))) (wo := (nI l)) (u := (nI 0)) hn hR ho hr hon hh hnh hl hnl hW hH (h := (hmN (I (o + 2)) l)) (by omega); exact h) (m_go ?_)
  show AW _ _ _ _ _ _ _ _ [.int (moX I o nl (hmN (I (o + 2)) l) (nI l) (sgU (nI 0)) (moR I o nl (hmN (I (o + 2)) l) (-1) (sgU (nI 0)) (w5 I))), .int (moX I o nl (hmN (I (o + 2)) l) (-1) (sgU (nI 0)) (w5 I))] _ _ _ _
  refine a_isub dS_dear_57 ?_
  exact a_iret dS_dear_58 rfl ⟨rfl, KP.oW (fun _ _ => rfl) (fun j hj => (moR_lo hj).trans (moR_lo hj)), KF.refl hR⟩
theorem q_S_spoilt0 {S : Nat × (Nat → Int32)} {d n : Nat} {I : mI} {J : mJ} {R : mR} (hn : 122 ≤ n) (hR : m_fin R) {x : Int32} (h0 : f_of x (I 3 0) = 0) {y u : Int32}  : AW S (d + 6) YS_spoilt n n (qV I R (.int (-1000))) 0 [(0, .ref 0), (1, .int x), (2, .int y), (3, .int u)] [] I J R n := by
  refine a_aload_n 0 dS_spoilt_0 rfl rfl ?_
  refine a_geta (r := 1) dS_spoilt_1 fl11_10 rfl ly_0 (by omega) (rf_0_0 hR) ?_
  refine a_iload_n 1 dS_spoilt_4 rfl rfl ?_
  refine a_callV (Q' := m_res (some (.null)) I J R) (as := [.int x]) (st := []) dS_spoilt_5 ml11_101 rfl (Nat.le_of_ble_eq_true rfl) ly_1 rfl rfl (by decide) (by omega) (Nat.le_of_ble_eq_true rfl) rfl (Nat.le_refl _) (Nat.le_refl _) (c_Told_officeAt0 hn hR h0) (m_go ?_)
  show AW _ _ _ _ _ _ _ _ [.null] _ _ _ _
  refine a_astoreN (lv' := [(4, .null), (0, .ref 0), (1, .int x), (2, .int y), (3, .int u)]) dS_spoilt_8 (by decide) rfl ?_
  refine a_aloadN 0 dS_spoilt_10 rfl ?_
  refine a_ifnullN (tgt := 24) dS_spoilt_12 (by decide) ?_
  refine a_sipush (v := -1000) dS_spoilt_24 (by decide) ?_
  exact a_iret dS_spoilt_27 rfl ⟨rfl, KP.refl, (KF.refl hR)⟩
theorem q_S_spoilt1 {S : Nat × (Nat → Int32)} {d n : Nat} {I : mI} {J : mJ} {R : mR} (hn : 122 ≤ n) (hR : m_fin R) {o nh nl : Nat} (ho : o ∈ m_offs) (hr : offR R o) (hon : o + 8 < n) (hh : I o 0 = nI nh) (hnh : nh ≤ 6) (hl : I o 1 = nI nl) (hnl : nl ≤ 10) (hW : WFc I o nl) (hH : WFh (I (o + 2)) nl) {k : Nat} (h1 : f_of (nI k) (I 3 0) = 1) (hk : k < 2) (hro : R 4 k = some o) {y : Int32} (hy : f_of y (nI nh) = 0) {u : Int32}  : AW S (d + 6) YS_spoilt n n (qV I R (.int (-1000))) 0 [(0, .ref 0), (1, .int (nI k)), (2, .int y), (3, .int u)] [] I J R n := by
  refine a_aload_n 0 dS_spoilt_0 rfl rfl ?_
  refine a_geta (r := 1) dS_spoilt_1 fl11_10 rfl ly_0 (by omega) (rf_0_0 hR) ?_
  refine a_iload_n 1 dS_spoilt_4 rfl rfl ?_
  refine a_callV (Q' := m_res (some (.ref o)) I J R) (as := [.int (nI k)]) (st := []) dS_spoilt_5 ml11_101 rfl (Nat.le_of_ble_eq_true rfl) ly_1 rfl rfl (by decide) (by omega) (Nat.le_of_ble_eq_true rfl) rfl (Nat.le_refl _) (Nat.le_refl _) (c_Told_officeAt1 hn hR h1 hk hro) (m_go ?_)
  show AW _ _ _ _ _ _ _ _ [.ref o] _ _ _ _
  refine a_astore (lv' := [(4, .ref o), (0, .ref 0), (1, .int (nI k)), (2, .int y), (3, .int u)]) dS_spoilt_8 (by decide) rfl ?_
  refine a_aload 0 dS_spoilt_10 rfl ?_
  refine a_ifnull dS_spoilt_12 ?_
  refine a_aload 0 dS_spoilt_15 rfl ?_
  refine a_iload_n 3 dS_spoilt_17 rfl rfl ?_
  refine a_callV (Q' := m_res (some (.int (f_of y (nI nh)))) I J R) (as := [.int y]) (st := []) dS_spoilt_18 ml11_135 rfl (Nat.le_of_ble_eq_true rfl) (of_l0 ho) rfl rfl (by decide) (by omega) (Nat.le_of_ble_eq_true rfl) rfl (Nat.le_refl _) (Nat.le_refl _) (by have h := c_Office_hasHouse (S := S) (d := d + 5) (n := n) (J := J) (R := R) (I := I) (h := y) ho hr hon; rw [hh] at h; exact h) (m_go ?_)
  show AW _ _ _ _ _ _ _ _ [.int (f_of y (nI nh))] _ _ _ _
  refine a_if_ne (tgt := 28) dS_spoilt_21 (by decide) (fun c => False.elim (c hy)) (fun _ => ?_)
  refine a_sipush (v := -1000) dS_spoilt_24 (by decide) ?_
  exact a_iret dS_spoilt_27 rfl ⟨rfl, KP.refl, (KF.refl hR)⟩
theorem oW_ds {I : mI} {w : r5} {o : Nat} (ho : o ∈ m_offs) : dsO (oW I w) o = dsO I o := by
  funext l y; unfold dsO; rw [oW_o ho 5 (by decide), oW_o ho 3 (by decide), oW_o ho 8 (by decide)]
theorem oW_bh {I : mI} {w : r5} {o h k : Nat} {s : Int32} (ho : o ∈ m_offs) : bhO (oW I w) o h s k = bhO I o h s k := by
  unfold bhO; rw [oW_ds ho, oW_o ho 3 (by decide), oW_o ho 1 (by decide)]
theorem q_S_spoilt2 {S : Nat × (Nat → Int32)} {d n : Nat} {I : mI} {J : mJ} {R : mR} (hn : 122 ≤ n) (hR : m_fin R) {o nh nl : Nat} (ho : o ∈ m_offs) (hr : offR R o) (hon : o + 8 < n) (hh : I o 0 = nI nh) (hnh : nh ≤ 6) (hl : I o 1 = nI nl) (hnl : nl ≤ 10) (hW : WFc I o nl) (hH : WFh (I (o + 2)) nl) {k : Nat} (h1 : f_of (nI k) (I 3 0) = 1) (hk : k < 2) (hro : R 4 k = some o) {h : Nat} (hh6 : h < nh) {u : Int32}  : AW S (d + 6) YS_spoilt n n (qV I R (.int (if u = 0 then (moX I o nl h (-1) (sgU (nI 0)) (w5 I)) - (bhO I o h (ltsN (I (o + 2)) (nI h) nl) nl).1 else (bhO I o h (ltsN (I (o + 2)) (nI h) nl) nl).2.2))) 0 [(0, .ref 0), (1, .int (nI k)), (2, .int (nI h)), (3, .int u)] [] I J R n := by
  rw [show AW S (d + 6) YS_spoilt n n (qV I R (.int (if u = 0 then (moX I o nl h (-1) (sgU (nI 0)) (w5 I)) - (bhO I o h (ltsN (I (o + 2)) (nI h) nl) nl).1 else (bhO I o h (ltsN (I (o + 2)) (nI h) nl) nl).2.2))) 0 [(0, .ref 0), (1, .int (nI k)), (2, .int (nI h)), (3, .int u)] [] I J R n = AW S (d + 6) YS_spoilt n n (qV I R (.int (if u = 0 then (moX I o nl h (-1) (sgU (nI 0)) (w5 I)) - (bhO I o h (ltsN (I (o + 2)) (nI h) nl) nl).1 else (bhO I o h (ltsN (I (o + 2)) (nI h) nl) nl).2.2))) 0 [(0, .ref 0), (1, .int (nI k)), (2, .int (nI h)), (3, .int u)] [] (oW I (w5 I)) J R n from by rw [oW_self]]
  refine a_aload_n 0 dS_spoilt_0 rfl rfl ?_
  refine a_geta (r := 1) dS_spoilt_1 fl11_10 rfl ly_0 (by omega) (rf_0_0 hR) ?_
  refine a_iload_n 1 dS_spoilt_4 rfl rfl ?_
  refine a_callV (Q' := m_res (some (.ref o)) (oW I (w5 I)) J R) (as := [.int (nI k)]) (st := []) dS_spoilt_5 ml11_101 rfl (Nat.le_of_ble_eq_true rfl) ly_1 rfl rfl (by decide) (by omega) (Nat.le_of_ble_eq_true rfl) rfl (Nat.le_refl _) (Nat.le_refl _) (c_oaW hn hR h1 hk hro) (m_go ?_)
  show AW _ _ _ _ _ _ _ _ [.ref o] _ _ _ _
  refine a_astore (lv' := [(4, .ref o), (0, .ref 0), (1, .int (nI k)), (2, .int (nI h)), (3, .int u)]) dS_spoilt_8 (by decide) rfl ?_
  refine a_aload 0 dS_spoilt_10 rfl ?_
  refine a_ifnull dS_spoilt_12 ?_
  refine a_aload 0 dS_spoilt_15 rfl ?_
  refine a_iload_n 3 dS_spoilt_17 rfl rfl ?_
  refine a_callV (Q' := m_res (some (.int (f_of (nI h) (nI nh)))) (oW I (w5 I)) J R) (as := [.int (nI h)]) (st := []) dS_spoilt_18 ml11_135 rfl (Nat.le_of_ble_eq_true rfl) (of_l0 ho) rfl rfl (by decide) (by omega) (Nat.le_of_ble_eq_true rfl) rfl (Nat.le_refl _) (Nat.le_refl _) (by have h := c_Office_hasHouse (S := S) (d := d + 5) (n := n) (J := J) (R := R) (I := (oW I (w5 I))) (h := (nI h)) ho hr hon; rw [oW_o0 ho, hh] at h; exact h) (m_go ?_)
  show AW _ _ _ _ _ _ _ _ [.int (f_of (nI h) (nI nh))] _ _ _ _
  refine a_if_ne (tgt := 28) dS_spoilt_21 (by decide) (fun _ => ?_) (fun c => False.elim (absurd c (by rw [f_of_n (by omega) hh6]; decide)))
  refine a_aload 0 dS_spoilt_28 rfl ?_
  refine a_iload_n 3 dS_spoilt_30 rfl rfl ?_
  refine a_callV (Q' := m_res (some (.int (ltsN (I (o + 2)) (nI h) nl))) (oW I (w5 I)) J R) (as := [.int (nI h)]) (st := []) dS_spoilt_31 ml11_212 rfl (Nat.le_of_ble_eq_true rfl) (of_l0 ho) rfl rfl (by decide) (by omega) (Nat.le_of_ble_eq_true rfl) rfl (Nat.le_refl _) (Nat.le_refl _) (by have h := c_Office_lettersOf (S := S) (d := d + 5) (n := n) (J := J) (R := R) (I := (oW I (w5 I))) (h := nI h) ho hr hon (by rw [oW_o0 ho]; exact hl) hnl; rw [oW_o ho 2 (by decide)] at h; exact h) (m_go ?_)
  show AW _ _ _ _ _ _ _ _ [.int (ltsN (I (o + 2)) (nI h) nl)] _ _ _ _
  refine a_istore (lv' := [(5, .int (ltsN (I (o + 2)) (nI h) nl)), (4, .ref o), (0, .ref 0), (1, .int (nI k)), (2, .int (nI h)), (3, .int u)]) dS_spoilt_34 (by decide) rfl ?_
  refine a_iload_n 5 dS_spoilt_36 rfl rfl ?_
  refine a_if_eq (tgt := 49) dS_spoilt_37 (by decide) (fun c37 => ?_) (fun c37 => ?_)
  · refine a_aload_n 2 dS_spoilt_49 rfl rfl ?_
    refine a_geta (r := 64) dS_spoilt_50 fl11_37 rfl ly_0 (by omega) (rf_0_4 hR) ?_
    refine a_aload 1 dS_spoilt_53 rfl ?_
    refine a_iload_n 4 dS_spoilt_55 rfl rfl ?_
    refine a_iconst (v := -1) dS_spoilt_56 (by decide) ?_
    refine a_iconstN (a := 0) dS_spoilt_57 (by decide) ?_
    refine a_callV (Q' := m_res (some (.int (moX I o nl h (-1) (sgU (nI 0)) (w5 I)))) (oW I (moR I o nl h (-1) (sgU (nI 0)) (w5 I))) J R) (as := [.ref o, .int (nI h), .int (-1), .int (nI 0)]) (st := []) dS_spoilt_58 ml11_138 rfl (Nat.le_of_ble_eq_true rfl) ly_64 rfl rfl (by decide) (by omega) (Nat.le_of_ble_eq_true rfl) rfl (Nat.le_refl _) (Nat.le_refl _) (by have h := c_moodOf (S := S) (d := d + 2) (n := n) (J := J) (R := R) (I := I) (o := o) (w := (w5 I)) (wo := (-1)) (u := (nI 0)) hn hR ho hr hon hh hnh hl hnl hW hH (h := h) (by omega); exact h) (m_go ?_)
    show AW _ _ _ _ _ _ _ _ [.int (moX I o nl h (-1) (sgU (nI 0)) (w5 I))] _ _ _ _
    refine a_aload 1 dS_spoilt_61 rfl ?_
    refine a_iload_n 4 dS_spoilt_63 rfl rfl ?_
    refine a_iload 0 dS_spoilt_64 rfl ?_
    refine a_callV (Q' := m_res (some (.int (bhO I o h (ltsN (I (o + 2)) (nI h) nl) nl).1)) (oW I (moR I o nl h (-1) (sgU (nI 0)) (w5 I))) J R) (as := [.int (nI h), .int (ltsN (I (o + 2)) (nI h) nl)]) (st := [.int (moX I o nl h (-1) (sgU (nI 0)) (w5 I))]) dS_spoilt_66 ml11_218 rfl (Nat.le_of_ble_eq_true rfl) (of_l0 ho) rfl rfl (by decide) (by omega) (Nat.le_of_ble_eq_true rfl) rfl (Nat.le_refl _) (Nat.le_refl _) (by have h := c_Office_moodBehind (S := S) (d := d + 4) (n := n) (J := J) (R := R) (I := (oW I (moR I o nl h (-1) (sgU (nI 0)) (w5 I)))) (h := h) (s := (ltsN (I (o + 2)) (nI h) nl)) ho hr hon (by rw [oW_o0 ho]; exact hl) hnl (by omega) (fun l hl2 => by rw [oW_o ho 3 (by decide)]; exact hW l hl2); rw [oW_bh ho] at h; exact h) (m_go ?_)
    show AW _ _ _ _ _ _ _ _ [.int (bhO I o h (ltsN (I (o + 2)) (nI h) nl) nl).1, .int (moX I o nl h (-1) (sgU (nI 0)) (w5 I))] _ _ _ _
    refine a_isub dS_spoilt_69 ?_
    exact a_iret dS_spoilt_70 rfl ⟨(by rw [if_pos c37]), KP.oW (fun _ _ => rfl) (fun j hj => moR_lo hj), KF.refl hR⟩
  · refine a_aload 1 dS_spoilt_40 rfl ?_
    refine a_iload_n 4 dS_spoilt_42 rfl rfl ?_
    refine a_iload 0 dS_spoilt_43 rfl ?_
    refine a_callV (Q' := m_res (some (.int (bhO I o h (ltsN (I (o + 2)) (nI h) nl) nl).2.2)) (oW I (w5 I)) J R) (as := [.int (nI h), .int (ltsN (I (o + 2)) (nI h) nl)]) (st := []) dS_spoilt_45 ml11_215 rfl (Nat.le_of_ble_eq_true rfl) (of_l0 ho) rfl rfl (by decide) (by omega) (Nat.le_of_ble_eq_true rfl) rfl (Nat.le_refl _) (Nat.le_refl _) (by have h := c_Office_lowestUntil (S := S) (d := d + 4) (n := n) (J := J) (R := R) (I := (oW I (w5 I))) (h := h) (s := (ltsN (I (o + 2)) (nI h) nl)) ho hr hon (by rw [oW_o0 ho]; exact hl) hnl (by omega) (fun l hl2 => by rw [oW_o ho 3 (by decide)]; exact hW l hl2); rw [oW_bh ho] at h; exact h) (m_go ?_)
    show AW _ _ _ _ _ _ _ _ [.int (bhO I o h (ltsN (I (o + 2)) (nI h) nl) nl).2.2] _ _ _ _
    exact a_iret dS_spoilt_48 rfl ⟨(by rw [if_neg c37]), KP.oW (fun _ _ => rfl) (fun j hj => rfl), KF.refl hR⟩
theorem q_S_strongest0 {S : Nat × (Nat → Int32)} {d n : Nat} {I : mI} {J : mJ} {R : mR} (hn : 122 ≤ n) (hR : m_fin R) {x : Int32} (h0 : f_of x (I 3 0) = 0) {u : Int32}  : AW S (d + 7) YS_strongest n n (qV I R (.int (-1))) 0 [(0, .ref 0), (1, .int x), (2, .int u)] [] I J R n := by
  refine a_aload_n 0 dS_strongest_0 rfl rfl ?_
  refine a_geta (r := 1) dS_strongest_1 fl11_10 rfl ly_0 (by omega) (rf_0_0 hR) ?_
  refine a_iload_n 1 dS_strongest_4 rfl rfl ?_
  refine a_callV (Q' := m_res (some (.null)) I J R) (as := [.int x]) (st := []) dS_strongest_5 ml11_101 rfl (Nat.le_of_ble_eq_true rfl) ly_1 rfl rfl (by decide) (by omega) (Nat.le_of_ble_eq_true rfl) rfl (Nat.le_refl _) (Nat.le_refl _) (c_Told_officeAt0 hn hR h0) (m_go ?_)
  show AW _ _ _ _ _ _ _ _ [.null] _ _ _ _
  refine a_astore_nN (lv' := [(3, .null), (0, .ref 0), (1, .int x), (2, .int u)]) dS_strongest_8 rfl (by decide) rfl ?_
  refine a_aload_nN 0 dS_strongest_9 rfl rfl ?_
  refine a_ifnullN (tgt := 20) dS_strongest_10 (by decide) ?_
  refine a_iconst (v := -1) dS_strongest_20 (by decide) ?_
  exact a_iret dS_strongest_21 rfl ⟨rfl, KP.refl, (KF.refl hR)⟩
theorem q_S_strongest1 {S : Nat × (Nat → Int32)} {d n : Nat} {I : mI} {J : mJ} {R : mR} (hn : 122 ≤ n) (hR : m_fin R) {o nh nl : Nat} (ho : o ∈ m_offs) (hr : offR R o) (hon : o + 8 < n) (hh : I o 0 = nI nh) (hnh : nh ≤ 6) (hl : I o 1 = nI nl) (hnl : nl ≤ 10) (hW : WFc I o nl) (hH : WFh (I (o + 2)) nl) {k : Nat} (h1 : f_of (nI k) (I 3 0) = 1) (hk : k < 2) (hro : R 4 k = some o) (hlw : I o 2 = 0) {u : Int32}  : AW S (d + 7) YS_strongest n n (qV I R (.int (-1))) 0 [(0, .ref 0), (1, .int (nI k)), (2, .int u)] [] I J R n := by
  refine a_aload_n 0 dS_strongest_0 rfl rfl ?_
  refine a_geta (r := 1) dS_strongest_1 fl11_10 rfl ly_0 (by omega) (rf_0_0 hR) ?_
  refine a_iload_n 1 dS_strongest_4 rfl rfl ?_
  refine a_callV (Q' := m_res (some (.ref o)) I J R) (as := [.int (nI k)]) (st := []) dS_strongest_5 ml11_101 rfl (Nat.le_of_ble_eq_true rfl) ly_1 rfl rfl (by decide) (by omega) (Nat.le_of_ble_eq_true rfl) rfl (Nat.le_refl _) (Nat.le_refl _) (c_Told_officeAt1 hn hR h1 hk hro) (m_go ?_)
  show AW _ _ _ _ _ _ _ _ [.ref o] _ _ _ _
  refine a_astore_n (lv' := [(3, .ref o), (0, .ref 0), (1, .int (nI k)), (2, .int u)]) dS_strongest_8 rfl (by decide) rfl ?_
  refine a_aload_n 0 dS_strongest_9 rfl rfl ?_
  refine a_ifnull dS_strongest_10 ?_
  refine a_aload_n 0 dS_strongest_13 rfl rfl ?_
  refine a_geti dS_strongest_14 fl11_235 rfl (of_l0 ho) (by omega) ?_
  rw [show I o 2 = 0 from hlw]
  refine a_if_ne (tgt := 22) dS_strongest_17 (by decide) (fun c => False.elim (c rfl)) (fun _ => ?_)
  refine a_iconst (v := -1) dS_strongest_20 (by decide) ?_
  exact a_iret dS_strongest_21 rfl ⟨rfl, KP.refl, (KF.refl hR)⟩
theorem q_S_strongest2 {S : Nat × (Nat → Int32)} {d n : Nat} {I : mI} {J : mJ} {R : mR} (hn : 122 ≤ n) (hR : m_fin R) {o nh nl : Nat} (ho : o ∈ m_offs) (hr : offR R o) (hon : o + 8 < n) (hh : I o 0 = nI nh) (hnh : nh ≤ 6) (hl : I o 1 = nI nl) (hnl : nl ≤ 10) (hW : WFc I o nl) (hH : WFh (I (o + 2)) nl) {k : Nat} (h1 : f_of (nI k) (I 3 0) = 1) (hk : k < 2) (hro : R 4 k = some o) (hd : 80 ≤ o ∨ o + 9 ≤ 71) (hlw : ¬ I o 2 = 0) {u : Int32}  : AW S (d + 7) YS_strongest n n (qV I R (.int (if u = 0 then (sgCT I o nh nl (w5 I)).1 0 else (sgCT I o nh nl (w5 I)).1 1))) 0 [(0, .ref 0), (1, .int (nI k)), (2, .int u)] [] I J R n := by
  rw [show AW S (d + 7) YS_strongest n n (qV I R (.int (if u = 0 then (sgCT I o nh nl (w5 I)).1 0 else (sgCT I o nh nl (w5 I)).1 1))) 0 [(0, .ref 0), (1, .int (nI k)), (2, .int u)] [] I J R n = AW S (d + 7) YS_strongest n n (qV I R (.int (if u = 0 then (sgCT I o nh nl (w5 I)).1 0 else (sgCT I o nh nl (w5 I)).1 1))) 0 [(0, .ref 0), (1, .int (nI k)), (2, .int u)] [] (oW I (w5 I)) J R n from by rw [oW_self]]
  refine a_aload_n 0 dS_strongest_0 rfl rfl ?_
  refine a_geta (r := 1) dS_strongest_1 fl11_10 rfl ly_0 (by omega) (rf_0_0 hR) ?_
  refine a_iload_n 1 dS_strongest_4 rfl rfl ?_
  refine a_callV (Q' := m_res (some (.ref o)) (oW I (w5 I)) J R) (as := [.int (nI k)]) (st := []) dS_strongest_5 ml11_101 rfl (Nat.le_of_ble_eq_true rfl) ly_1 rfl rfl (by decide) (by omega) (Nat.le_of_ble_eq_true rfl) rfl (Nat.le_refl _) (Nat.le_refl _) (c_oaW hn hR h1 hk hro) (m_go ?_)
  show AW _ _ _ _ _ _ _ _ [.ref o] _ _ _ _
  refine a_astore_n (lv' := [(3, .ref o), (0, .ref 0), (1, .int (nI k)), (2, .int u)]) dS_strongest_8 rfl (by decide) rfl ?_
  refine a_aload_n 0 dS_strongest_9 rfl rfl ?_
  refine a_ifnull dS_strongest_10 ?_
  refine a_aload_n 0 dS_strongest_13 rfl rfl ?_
  refine a_geti dS_strongest_14 fl11_235 rfl (of_l0 ho) (by omega) ?_
  rw [show (oW I (w5 I)) o 2 = I o 2 from (by rw [oW_o0 ho])]
  refine a_if_ne (tgt := 22) dS_strongest_17 (by decide) (fun _ => ?_) (fun c => False.elim (hlw c))
  refine a_aload_n 1 dS_strongest_22 rfl rfl ?_
  refine a_geta (r := 64) dS_strongest_23 fl11_37 rfl ly_0 (by omega) (rf_0_4 hR) ?_
  refine a_aload_n 0 dS_strongest_26 rfl rfl ?_
  refine a_callV (Q' := m_res none (oW (trI I o) (sgCT I o nh nl (w5 I))) J R) (as := [.ref o]) (st := []) dS_strongest_27 ml11_238 rfl (Nat.le_of_ble_eq_true rfl) ly_64 rfl rfl (by decide) (by omega) (Nat.le_of_ble_eq_true rfl) rfl (Nat.le_refl _) (Nat.le_refl _) (c_findStrongest hn hR ho hr hon hh hnh hl hnl hW hH hd) (m_go ?_)
  show AW _ _ _ _ _ _ _ _ [] _ _ _ _
  refine a_iload_n 3 dS_strongest_30 rfl rfl ?_
  refine a_if_eq (tgt := 44) dS_strongest_31 (by decide) (fun c31 => ?_) (fun c31 => ?_)
  · refine a_aload_n 1 dS_strongest_44 rfl rfl ?_
    refine a_geta (r := 64) dS_strongest_45 fl11_37 rfl ly_0 (by omega) (rf_0_4 hR) ?_
    refine a_geti dS_strongest_48 fl11_244 rfl ly_64 (by omega) ?_
    rw [show (oW (trI I o) (sgCT I o nh nl (w5 I))) 64 0 = (sgCT I o nh nl (w5 I)).1 0 from rfl]
    exact a_iret dS_strongest_51 rfl ⟨(by rw [if_pos c31]), KP.oW (fun a ha => tr_o (by omega)) (fun j hj => sgCT_lo hj), KF.refl hR⟩
  · refine a_aload_n 1 dS_strongest_34 rfl rfl ?_
    refine a_geta (r := 64) dS_strongest_35 fl11_37 rfl ly_0 (by omega) (rf_0_4 hR) ?_
    refine a_geti dS_strongest_38 fl11_241 rfl ly_64 (by omega) ?_
    rw [show (oW (trI I o) (sgCT I o nh nl (w5 I))) 64 1 = (sgCT I o nh nl (w5 I)).1 1 from rfl]
    refine a_goto (tgt := 51) dS_strongest_41 (by decide) ?_
    exact a_iret dS_strongest_51 rfl ⟨(by rw [if_neg c31]), KP.oW (fun a ha => tr_o (by omega)) (fun j hj => sgCT_lo hj), KF.refl hR⟩
theorem q_S_swapped0 {S : Nat × (Nat → Int32)} {d n : Nat} {I : mI} {J : mJ} {R : mR} (hn : 122 ≤ n) (hR : m_fin R) {x : Int32} (h0 : f_of x (I 3 0) = 0) {u : Int32}  : AW S (d + 8) YS_swapped n n (qV I R (.int (-1000))) 0 [(0, .ref 0), (1, .int x), (2, .int u)] [] I J R n := by
  refine a_aload_n 0 dS_swapped_0 rfl rfl ?_
  refine a_geta (r := 1) dS_swapped_1 fl11_10 rfl ly_0 (by omega) (rf_0_0 hR) ?_
  refine a_iload_n 1 dS_swapped_4 rfl rfl ?_
  refine a_callV (Q' := m_res (some (.null)) I J R) (as := [.int x]) (st := []) dS_swapped_5 ml11_101 rfl (Nat.le_of_ble_eq_true rfl) ly_1 rfl rfl (by decide) (by omega) (Nat.le_of_ble_eq_true rfl) rfl (Nat.le_refl _) (Nat.le_refl _) (c_Told_officeAt0 hn hR h0) (m_go ?_)
  show AW _ _ _ _ _ _ _ _ [.null] _ _ _ _
  refine a_astore_nN (lv' := [(3, .null), (0, .ref 0), (1, .int x), (2, .int u)]) dS_swapped_8 rfl (by decide) rfl ?_
  refine a_aload_nN 0 dS_swapped_9 rfl rfl ?_
  refine a_ifnonnullN dS_swapped_10 ?_
  refine a_sipush (v := -1000) dS_swapped_13 (by decide) ?_
  exact a_iret dS_swapped_16 rfl ⟨rfl, KP.refl, (KF.refl hR)⟩
theorem q_S_swapped2 {S : Nat × (Nat → Int32)} {d n : Nat} {I : mI} {J : mJ} {R : mR} (hn : 122 ≤ n) (hR : m_fin R) {o nh nl : Nat} (ho : o ∈ m_offs) (hr : offR R o) (hon : o + 8 < n) (hh : I o 0 = nI nh) (hnh : nh ≤ 6) (hl : I o 1 = nI nl) (hnl : nl ≤ 10) (hW : WFc I o nl) (hH : WFh (I (o + 2)) nl) {k : Nat} (h1 : f_of (nI k) (I 3 0) = 1) (hk : k < 2) (hro : R 4 k = some o) (hd : 80 ≤ o ∨ o + 9 ≤ 71) {u : Int32}  : AW S (d + 8) YS_swapped n n (qV I R (.int (if u = 0 then (swCT I o nh nl (w5 I)).1 0 else (swCT I o nh nl (w5 I)).1 1))) 0 [(0, .ref 0), (1, .int (nI k)), (2, .int u)] [] I J R n := by
  rw [show AW S (d + 8) YS_swapped n n (qV I R (.int (if u = 0 then (swCT I o nh nl (w5 I)).1 0 else (swCT I o nh nl (w5 I)).1 1))) 0 [(0, .ref 0), (1, .int (nI k)), (2, .int u)] [] I J R n = AW S (d + 8) YS_swapped n n (qV I R (.int (if u = 0 then (swCT I o nh nl (w5 I)).1 0 else (swCT I o nh nl (w5 I)).1 1))) 0 [(0, .ref 0), (1, .int (nI k)), (2, .int u)] [] (oW I (w5 I)) J R n from by rw [oW_self]]
  refine a_aload_n 0 dS_swapped_0 rfl rfl ?_
  refine a_geta (r := 1) dS_swapped_1 fl11_10 rfl ly_0 (by omega) (rf_0_0 hR) ?_
  refine a_iload_n 1 dS_swapped_4 rfl rfl ?_
  refine a_callV (Q' := m_res (some (.ref o)) (oW I (w5 I)) J R) (as := [.int (nI k)]) (st := []) dS_swapped_5 ml11_101 rfl (Nat.le_of_ble_eq_true rfl) ly_1 rfl rfl (by decide) (by omega) (Nat.le_of_ble_eq_true rfl) rfl (Nat.le_refl _) (Nat.le_refl _) (c_oaW hn hR h1 hk hro) (m_go ?_)
  show AW _ _ _ _ _ _ _ _ [.ref o] _ _ _ _
  refine a_astore_n (lv' := [(3, .ref o), (0, .ref 0), (1, .int (nI k)), (2, .int u)]) dS_swapped_8 rfl (by decide) rfl ?_
  refine a_aload_n 0 dS_swapped_9 rfl rfl ?_
  refine a_ifnonnull (tgt := 17) dS_swapped_10 (by decide) ?_
  refine a_aload_n 1 dS_swapped_17 rfl rfl ?_
  refine a_geta (r := 64) dS_swapped_18 fl11_37 rfl ly_0 (by omega) (rf_0_4 hR) ?_
  refine a_aload_n 0 dS_swapped_21 rfl rfl ?_
  refine a_callV (Q' := m_res none (oW (trI I o) (swCT I o nh nl (w5 I))) J R) (as := [.ref o]) (st := []) dS_swapped_22 ml11_247 rfl (Nat.le_of_ble_eq_true rfl) ly_64 rfl rfl (by decide) (by omega) (Nat.le_of_ble_eq_true rfl) rfl (Nat.le_refl _) (Nat.le_refl _) (c_findSwapped hn hR ho hr hon hh hnh hl hnl hW hH hd) (m_go ?_)
  show AW _ _ _ _ _ _ _ _ [] _ _ _ _
  refine a_iload_n 3 dS_swapped_25 rfl rfl ?_
  refine a_if_eq (tgt := 39) dS_swapped_26 (by decide) (fun c26 => ?_) (fun c26 => ?_)
  · refine a_aload_n 1 dS_swapped_39 rfl rfl ?_
    refine a_geta (r := 64) dS_swapped_40 fl11_37 rfl ly_0 (by omega) (rf_0_4 hR) ?_
    refine a_geti dS_swapped_43 fl11_244 rfl ly_64 (by omega) ?_
    rw [show (oW (trI I o) (swCT I o nh nl (w5 I))) 64 0 = (swCT I o nh nl (w5 I)).1 0 from rfl]
    exact a_iret dS_swapped_46 rfl ⟨(by rw [if_pos c26]), KP.oW (fun a ha => tr_o (by omega)) (fun j hj => swCT_lo hj), KF.refl hR⟩
  · refine a_aload_n 1 dS_swapped_29 rfl rfl ?_
    refine a_geta (r := 64) dS_swapped_30 fl11_37 rfl ly_0 (by omega) (rf_0_4 hR) ?_
    refine a_geti dS_swapped_33 fl11_241 rfl ly_64 (by omega) ?_
    rw [show (oW (trI I o) (swCT I o nh nl (w5 I))) 64 1 = (swCT I o nh nl (w5 I)).1 1 from rfl]
    refine a_goto (tgt := 46) dS_swapped_36 (by decide) ?_
    exact a_iret dS_swapped_46 rfl ⟨(by rw [if_neg c26]), KP.oW (fun a ha => tr_o (by omega)) (fun j hj => swCT_lo hj), KF.refl hR⟩
theorem q_S_sorters0 {S : Nat × (Nat → Int32)} {d n : Nat} {I : mI} {J : mJ} {R : mR} (hn : 122 ≤ n) (hR : m_fin R) {x : Int32} (h0 : f_of x (I 3 0) = 0) {u : Int32}  : AW S (d + 8) YS_sorters n n (qV I R (.int (-1000))) 0 [(0, .ref 0), (1, .int x), (2, .int u)] [] I J R n := by
  refine a_aload_n 0 dS_sorters_0 rfl rfl ?_
  refine a_geta (r := 1) dS_sorters_1 fl11_10 rfl ly_0 (by omega) (rf_0_0 hR) ?_
  refine a_iload_n 1 dS_sorters_4 rfl rfl ?_
  refine a_callV (Q' := m_res (some (.null)) I J R) (as := [.int x]) (st := []) dS_sorters_5 ml11_101 rfl (Nat.le_of_ble_eq_true rfl) ly_1 rfl rfl (by decide) (by omega) (Nat.le_of_ble_eq_true rfl) rfl (Nat.le_refl _) (Nat.le_refl _) (c_Told_officeAt0 hn hR h0) (m_go ?_)
  show AW _ _ _ _ _ _ _ _ [.null] _ _ _ _
  refine a_astore_nN (lv' := [(3, .null), (0, .ref 0), (1, .int x), (2, .int u)]) dS_sorters_8 rfl (by decide) rfl ?_
  refine a_aload_nN 0 dS_sorters_9 rfl rfl ?_
  refine a_ifnonnullN dS_sorters_10 ?_
  refine a_sipush (v := -1000) dS_sorters_13 (by decide) ?_
  refine a_goto (tgt := 28) dS_sorters_16 (by decide) ?_
  exact a_iret dS_sorters_28 rfl ⟨rfl, KP.refl, (KF.refl hR)⟩
theorem q_S_sorters2 {S : Nat × (Nat → Int32)} {d n : Nat} {I : mI} {J : mJ} {R : mR} (hn : 122 ≤ n) (hR : m_fin R) {o nh nl : Nat} (ho : o ∈ m_offs) (hr : offR R o) (hon : o + 8 < n) (hh : I o 0 = nI nh) (hnh : nh ≤ 6) (hl : I o 1 = nI nl) (hnl : nl ≤ 10) (hW : WFc I o nl) (hH : WFh (I (o + 2)) nl) {k : Nat} (h1 : f_of (nI k) (I 3 0) = 1) (hk : k < 2) (hro : R 4 k = some o) {u : Int32}  : AW S (d + 8) YS_sorters n n (qV I R (.int (ldR I o nl u (I 70)))) 0 [(0, .ref 0), (1, .int (nI k)), (2, .int u)] [] I J R n := by
  refine a_aload_n 0 dS_sorters_0 rfl rfl ?_
  refine a_geta (r := 1) dS_sorters_1 fl11_10 rfl ly_0 (by omega) (rf_0_0 hR) ?_
  refine a_iload_n 1 dS_sorters_4 rfl rfl ?_
  refine a_callV (Q' := m_res (some (.ref o)) I J R) (as := [.int (nI k)]) (st := []) dS_sorters_5 ml11_101 rfl (Nat.le_of_ble_eq_true rfl) ly_1 rfl rfl (by decide) (by omega) (Nat.le_of_ble_eq_true rfl) rfl (Nat.le_refl _) (Nat.le_refl _) (c_Told_officeAt1 hn hR h1 hk hro) (m_go ?_)
  show AW _ _ _ _ _ _ _ _ [.ref o] _ _ _ _
  refine a_astore_n (lv' := [(3, .ref o), (0, .ref 0), (1, .int (nI k)), (2, .int u)]) dS_sorters_8 rfl (by decide) rfl ?_
  refine a_aload_n 0 dS_sorters_9 rfl rfl ?_
  refine a_ifnonnull (tgt := 19) dS_sorters_10 (by decide) ?_
  refine a_aload_n 1 dS_sorters_19 rfl rfl ?_
  refine a_geta (r := 64) dS_sorters_20 fl11_37 rfl ly_0 (by omega) (rf_0_4 hR) ?_
  refine a_aload_n 0 dS_sorters_23 rfl rfl ?_
  refine a_iload_n 3 dS_sorters_24 rfl rfl ?_
  refine a_callV (Q' := m_res (some (.int (ldR I o nl u (I 70)))) (m_row I 70 (ldM I o nl (I 70))) J R) (as := [.ref o, .int u]) (st := []) dS_sorters_25 ml11_185 rfl (Nat.le_of_ble_eq_true rfl) ly_64 rfl rfl (by decide) (by omega) (Nat.le_of_ble_eq_true rfl) rfl (Nat.le_refl _) (Nat.le_refl _) (by have h := c_lead (S := S) (d := d + 6) (J := J) (u := u) (f := I 70) hn hR ho hr hon hh hnh hl hnl hW hH; rw [M70_self] at h; exact h) (m_go ?_)
  show AW _ _ _ _ _ _ _ _ [.int (ldR I o nl u (I 70))] _ _ _ _
  exact a_iret dS_sorters_28 rfl ⟨rfl, (KP.row KP.refl (by omega)), (KF.refl hR)⟩
