theorem kw_0 : ∀ w ∈ u_ws m_C0 m_T0 6, w ∈ m_gd := fun w hw => by
  have h : ∀ w ∈ u_ws m_C0 m_T0 6, w ∈ (([387, 389, 391, 393, 395, 397] : List Nat).filterMap (fun i => tables_1[i]?)).filter goodWord := by decide +kernel
  obtain ⟨h1, h2⟩ := List.mem_filter.mp (h w hw)
  obtain ⟨i, -, hi⟩ := List.mem_filterMap.mp h1
  exact m_in hi h2
theorem kt_0 : ∀ j, j < 6 → parseFieldDescriptor (m_T0 j).2.2.1 = some (m_t0 j) := by decide +kernel
theorem kn_0 : ∀ a, a < 6 → ∀ b, b < 6 → a ≠ b → (m_T0 a).2.1 ≠ (m_T0 b).2.1 := by decide +kernel
theorem kd_0 : ∀ j, j < 6 → defaultValue (m_t0 j) = m_fv (fun _ => 0) (m_sty 0 j) 0 0 none := by decide +kernel
theorem kw_1 : ∀ w ∈ u_ws m_C1 m_T1 5, w ∈ m_gd := fun w hw => by
  have h : ∀ w ∈ u_ws m_C1 m_T1 5, w ∈ (([436, 438, 440, 442, 444] : List Nat).filterMap (fun i => tables_1[i]?)).filter goodWord := by decide +kernel
  obtain ⟨h1, h2⟩ := List.mem_filter.mp (h w hw)
  obtain ⟨i, -, hi⟩ := List.mem_filterMap.mp h1
  exact m_in hi h2
theorem kt_1 : ∀ j, j < 5 → parseFieldDescriptor (m_T1 j).2.2.1 = some (m_t1 j) := by decide +kernel
theorem kn_1 : ∀ a, a < 5 → ∀ b, b < 5 → a ≠ b → (m_T1 a).2.1 ≠ (m_T1 b).2.1 := by decide +kernel
theorem kd_1 : ∀ j, j < 5 → defaultValue (m_t1 j) = m_fv (fun _ => 0) (m_sty 1 j) 0 0 none := by decide +kernel
theorem kw_2 : ∀ w ∈ u_ws m_C2 m_T2 13, w ∈ m_gd := fun w hw => by
  have h : ∀ w ∈ u_ws m_C2 m_T2 13, w ∈ (([291, 293, 295, 297, 299, 301, 303, 305, 307, 309, 311, 313, 315] : List Nat).filterMap (fun i => tables_1[i]?)).filter goodWord := by decide +kernel
  obtain ⟨h1, h2⟩ := List.mem_filter.mp (h w hw)
  obtain ⟨i, -, hi⟩ := List.mem_filterMap.mp h1
  exact m_in hi h2
theorem kt_2 : ∀ j, j < 13 → parseFieldDescriptor (m_T2 j).2.2.1 = some (m_t2 j) := by decide +kernel
theorem kn_2 : ∀ a, a < 13 → ∀ b, b < 13 → a ≠ b → (m_T2 a).2.1 ≠ (m_T2 b).2.1 := by decide +kernel
theorem kd_2 : ∀ j, j < 13 → defaultValue (m_t2 j) = m_fv (fun _ => 0) (m_sty 2 j) 0 0 none := by decide +kernel
theorem kw_3 : ∀ w ∈ u_ws m_C3 m_T3 3, w ∈ m_gd := fun w hw => by
  have h : ∀ w ∈ u_ws m_C3 m_T3 3, w ∈ (([157, 159, 161] : List Nat).filterMap (fun i => tables_1[i]?)).filter goodWord := by decide +kernel
  obtain ⟨h1, h2⟩ := List.mem_filter.mp (h w hw)
  obtain ⟨i, -, hi⟩ := List.mem_filterMap.mp h1
  exact m_in hi h2
theorem kt_3 : ∀ j, j < 3 → parseFieldDescriptor (m_T3 j).2.2.1 = some (m_t3 j) := by decide +kernel
theorem kn_3 : ∀ a, a < 3 → ∀ b, b < 3 → a ≠ b → (m_T3 a).2.1 ≠ (m_T3 b).2.1 := by decide +kernel
theorem kd_3 : ∀ j, j < 3 → defaultValue (m_t3 j) = m_fv (fun _ => 0) (m_sty 3 j) 0 0 none := by decide +kernel
theorem kw_4 : ∀ w ∈ u_ws m_C4 m_T4 11, w ∈ m_gd := fun w hw => by
  have h : ∀ w ∈ u_ws m_C4 m_T4 11, w ∈ (([92, 94, 96, 98, 100, 102, 104, 106, 108, 110, 112] : List Nat).filterMap (fun i => tables_1[i]?)).filter goodWord := by decide +kernel
  obtain ⟨h1, h2⟩ := List.mem_filter.mp (h w hw)
  obtain ⟨i, -, hi⟩ := List.mem_filterMap.mp h1
  exact m_in hi h2
theorem kt_4 : ∀ j, j < 11 → parseFieldDescriptor (m_T4 j).2.2.1 = some (m_t4 j) := by decide +kernel
theorem kn_4 : ∀ a, a < 11 → ∀ b, b < 11 → a ≠ b → (m_T4 a).2.1 ≠ (m_T4 b).2.1 := by decide +kernel
theorem kd_4 : ∀ j, j < 11 → defaultValue (m_t4 j) = m_fv (fun _ => 0) (m_sty 4 j) 0 0 none := by decide +kernel
theorem kw_5 : ∀ w ∈ u_ws m_C5 m_T5 10, w ∈ m_gd := fun w hw => by
  have h : ∀ w ∈ u_ws m_C5 m_T5 10, w ∈ (([338, 340, 342, 344, 346, 348, 350, 352, 354, 356] : List Nat).filterMap (fun i => tables_1[i]?)).filter goodWord := by decide +kernel
  obtain ⟨h1, h2⟩ := List.mem_filter.mp (h w hw)
  obtain ⟨i, -, hi⟩ := List.mem_filterMap.mp h1
  exact m_in hi h2
theorem kt_5 : ∀ j, j < 10 → parseFieldDescriptor (m_T5 j).2.2.1 = some (m_t5 j) := by decide +kernel
theorem kn_5 : ∀ a, a < 10 → ∀ b, b < 10 → a ≠ b → (m_T5 a).2.1 ≠ (m_T5 b).2.1 := by decide +kernel
theorem kd_5 : ∀ j, j < 10 → defaultValue (m_t5 j) = m_fv (fun _ => 0) (m_sty 5 j) 0 0 none := by decide +kernel
theorem kw_6 : ∀ w ∈ u_ws m_C6 m_T6 2, w ∈ m_gd := fun w hw => by
  have h : ∀ w ∈ u_ws m_C6 m_T6 2, w ∈ (([369, 371] : List Nat).filterMap (fun i => tables_1[i]?)).filter goodWord := by decide +kernel
  obtain ⟨h1, h2⟩ := List.mem_filter.mp (h w hw)
  obtain ⟨i, -, hi⟩ := List.mem_filterMap.mp h1
  exact m_in hi h2
theorem kt_6 : ∀ j, j < 2 → parseFieldDescriptor (m_T6 j).2.2.1 = some (m_t6 j) := by decide +kernel
theorem kn_6 : ∀ a, a < 2 → ∀ b, b < 2 → a ≠ b → (m_T6 a).2.1 ≠ (m_T6 b).2.1 := by decide +kernel
theorem kd_6 : ∀ j, j < 2 → defaultValue (m_t6 j) = m_fv (fun _ => 0) (m_sty 6 j) 0 0 none := by decide +kernel
theorem kw_7 : ∀ w ∈ u_ws m_C7 m_T7 18, w ∈ m_gd := fun w hw => by
  have h : ∀ w ∈ u_ws m_C7 m_T7 18, w ∈ (([230, 232, 234, 236, 238, 240, 242, 244, 246, 248, 250, 252, 254, 256, 258, 260, 262, 264] : List Nat).filterMap (fun i => tables_1[i]?)).filter goodWord := by decide +kernel
  obtain ⟨h1, h2⟩ := List.mem_filter.mp (h w hw)
  obtain ⟨i, -, hi⟩ := List.mem_filterMap.mp h1
  exact m_in hi h2
theorem kt_7 : ∀ j, j < 18 → parseFieldDescriptor (m_T7 j).2.2.1 = some (m_t7 j) := by decide +kernel
theorem kn_7 : ∀ a, a < 18 → ∀ b, b < 18 → a ≠ b → (m_T7 a).2.1 ≠ (m_T7 b).2.1 := by decide +kernel
theorem kd_7 : ∀ j, j < 18 → defaultValue (m_t7 j) = m_fv (fun _ => 0) (m_sty 7 j) 0 0 none := by decide +kernel
theorem kw_8 : ∀ w ∈ u_ws m_C8 m_T8 5, w ∈ m_gd := fun w hw => by
  have h : ∀ w ∈ u_ws m_C8 m_T8 5, w ∈ (([414, 416, 418, 420, 422] : List Nat).filterMap (fun i => tables_1[i]?)).filter goodWord := by decide +kernel
  obtain ⟨h1, h2⟩ := List.mem_filter.mp (h w hw)
  obtain ⟨i, -, hi⟩ := List.mem_filterMap.mp h1
  exact m_in hi h2
theorem kt_8 : ∀ j, j < 5 → parseFieldDescriptor (m_T8 j).2.2.1 = some (m_t8 j) := by decide +kernel
theorem kn_8 : ∀ a, a < 5 → ∀ b, b < 5 → a ≠ b → (m_T8 a).2.1 ≠ (m_T8 b).2.1 := by decide +kernel
theorem kd_8 : ∀ j, j < 5 → defaultValue (m_t8 j) = m_fv (fun _ => 0) (m_sty 8 j) 0 0 none := by decide +kernel
theorem kw_9 : ∀ w ∈ u_ws m_C9 m_T9 8, w ∈ m_gd := fun w hw => by
  have h : ∀ w ∈ u_ws m_C9 m_T9 8, w ∈ (([177, 179, 181, 183, 185, 187, 189, 191] : List Nat).filterMap (fun i => tables_1[i]?)).filter goodWord := by decide +kernel
  obtain ⟨h1, h2⟩ := List.mem_filter.mp (h w hw)
  obtain ⟨i, -, hi⟩ := List.mem_filterMap.mp h1
  exact m_in hi h2
theorem kt_9 : ∀ j, j < 8 → parseFieldDescriptor (m_T9 j).2.2.1 = some (m_t9 j) := by decide +kernel
theorem kn_9 : ∀ a, a < 8 → ∀ b, b < 8 → a ≠ b → (m_T9 a).2.1 ≠ (m_T9 b).2.1 := by decide +kernel
theorem kd_9 : ∀ j, j < 8 → defaultValue (m_t9 j) = m_fv (fun _ => 0) (m_sty 9 j) 0 0 none := by decide +kernel
theorem kw_10 : ∀ w ∈ u_ws m_C10 m_T10 4, w ∈ m_gd := fun w hw => by
  have h : ∀ w ∈ u_ws m_C10 m_T10 4, w ∈ (([134, 136, 138, 140] : List Nat).filterMap (fun i => tables_1[i]?)).filter goodWord := by decide +kernel
  obtain ⟨h1, h2⟩ := List.mem_filter.mp (h w hw)
  obtain ⟨i, -, hi⟩ := List.mem_filterMap.mp h1
  exact m_in hi h2
theorem kt_10 : ∀ j, j < 4 → parseFieldDescriptor (m_T10 j).2.2.1 = some (m_t10 j) := by decide +kernel
theorem kn_10 : ∀ a, a < 4 → ∀ b, b < 4 → a ≠ b → (m_T10 a).2.1 ≠ (m_T10 b).2.1 := by decide +kernel
theorem kd_10 : ∀ j, j < 4 → defaultValue (m_t10 j) = m_fv (fun _ => 0) (m_sty 10 j) 0 0 none := by decide +kernel
theorem kw_11 : ∀ w ∈ u_ws m_C11 m_T11 9, w ∈ m_gd := fun w hw => by
  have h : ∀ w ∈ u_ws m_C11 m_T11 9, w ∈ (([456, 458, 460, 462, 464, 466, 468, 470, 472] : List Nat).filterMap (fun i => tables_1[i]?)).filter goodWord := by decide +kernel
  obtain ⟨h1, h2⟩ := List.mem_filter.mp (h w hw)
  obtain ⟨i, -, hi⟩ := List.mem_filterMap.mp h1
  exact m_in hi h2
theorem kt_11 : ∀ j, j < 9 → parseFieldDescriptor (m_T11 j).2.2.1 = some (m_t11 j) := by decide +kernel
theorem kn_11 : ∀ a, a < 9 → ∀ b, b < 9 → a ≠ b → (m_T11 a).2.1 ≠ (m_T11 b).2.1 := by decide +kernel
theorem kd_11 : ∀ j, j < 9 → defaultValue (m_t11 j) = m_fv (fun _ => 0) (m_sty 11 j) 0 0 none := by decide +kernel
theorem kw_12 : ∀ w ∈ u_ws m_C12 m_T12 55, w ∈ m_gd := fun w hw => by
  have h : ∀ w ∈ u_ws m_C12 m_T12 55, w ∈ (([1241, 1243, 1245, 1247, 1249, 1251, 1253, 1255, 1257, 1259, 1261, 1263, 1265, 1267, 1269, 1271, 1273, 1275, 1277, 1279, 1281, 1283, 1285, 1287, 1289, 1291, 1293, 1295, 1297, 1299, 1301, 1303, 1305, 1307, 1309, 1311, 1313, 1315, 1317, 1319, 1321, 1323, 1325, 1327, 1329, 1331, 1333, 1335, 1337, 1339, 1341, 1343, 1345, 1347, 1349] : List Nat).filterMap (fun i => tables_1[i]?)).filter goodWord := by decide +kernel
  obtain ⟨h1, h2⟩ := List.mem_filter.mp (h w hw)
  obtain ⟨i, -, hi⟩ := List.mem_filterMap.mp h1
  exact m_in hi h2
theorem kt_12 : ∀ j, j < 55 → parseFieldDescriptor (m_T12 j).2.2.1 = some (m_t12 j) := by decide +kernel
theorem kn_12 : ∀ a, a < 55 → ∀ b, b < 55 → a ≠ b → (m_T12 a).2.1 ≠ (m_T12 b).2.1 := by decide +kernel
theorem kd_12 : ∀ j, j < 55 → defaultValue (m_t12 j) = m_fv (fun _ => 0) (m_sty 12 j) 0 0 none := by decide +kernel
def YS_init : mY := (⟨"SortedOffice", "<init>", "()V"⟩, prog_1_method_1_code, 1, none)
theorem okS_init : m_ok YS_init 0 := ⟨m_in (i := 26) (by decide +kernel) rfl, m_in (i := 1) (by decide +kernel) rfl, by decide +kernel, ⟨by decide +kernel, by decide +kernel, by decide +kernel⟩, by decide +kernel⟩
def YTold_init : mY := (⟨"SortedOffice$Told", "<init>", "()V"⟩, prog_11_method_1_code, 1, none)
theorem okTold_init : m_ok YTold_init 0 := ⟨m_in (i := 34) (by decide +kernel) rfl, m_in (i := 2) (by decide +kernel) rfl, by decide +kernel, ⟨by decide +kernel, by decide +kernel, by decide +kernel⟩, by decide +kernel⟩
def YOffice_init : mY := (⟨"SortedOffice$Office", "<init>", "()V"⟩, prog_6_method_1_code, 1, none)
theorem okOffice_init : m_ok YOffice_init 0 := ⟨m_in (i := 41) (by decide +kernel) rfl, m_in (i := 3) (by decide +kernel) rfl, by decide +kernel, ⟨by decide +kernel, by decide +kernel, by decide +kernel⟩, by decide +kernel⟩
def YWeek_init : mY := (⟨"SortedOffice$Week", "<init>", "()V"⟩, prog_12_method_1_code, 1, none)
theorem okWeek_init : m_ok YWeek_init 0 := ⟨m_in (i := 122) (by decide +kernel) rfl, m_in (i := 4) (by decide +kernel) rfl, by decide +kernel, ⟨by decide +kernel, by decide +kernel, by decide +kernel⟩, by decide +kernel⟩
def YLog_init : mY := (⟨"SortedOffice$Log", "<init>", "()V"⟩, prog_5_method_1_code, 1, none)
theorem okLog_init : m_ok YLog_init 0 := ⟨m_in (i := 148) (by decide +kernel) rfl, m_in (i := 5) (by decide +kernel) rfl, by decide +kernel, ⟨by decide +kernel, by decide +kernel, by decide +kernel⟩, by decide +kernel⟩
def YReader_init : mY := (⟨"SortedOffice$Reader", "<init>", "()V"⟩, prog_9_method_1_code, 1, none)
theorem okReader_init : m_ok YReader_init 0 := ⟨m_in (i := 199) (by decide +kernel) rfl, m_in (i := 6) (by decide +kernel) rfl, by decide +kernel, ⟨by decide +kernel, by decide +kernel, by decide +kernel⟩, by decide +kernel⟩
def YCourse_init : mY := (⟨"SortedOffice$Course", "<init>", "()V"⟩, prog_4_method_1_code, 1, none)
theorem okCourse_init : m_ok YCourse_init 0 := ⟨m_in (i := 271) (by decide +kernel) rfl, m_in (i := 7) (by decide +kernel) rfl, by decide +kernel, ⟨by decide +kernel, by decide +kernel, by decide +kernel⟩, by decide +kernel⟩
def YOrders_init : mY := (⟨"SortedOffice$Orders", "<init>", "()V"⟩, prog_7_method_1_code, 1, none)
theorem okOrders_init : m_ok YOrders_init 0 := ⟨m_in (i := 322) (by decide +kernel) rfl, m_in (i := 8) (by decide +kernel) rfl, by decide +kernel, ⟨by decide +kernel, by decide +kernel, by decide +kernel⟩, by decide +kernel⟩
def YRacks_init : mY := (⟨"SortedOffice$Racks", "<init>", "()V"⟩, prog_8_method_1_code, 1, none)
theorem okRacks_init : m_ok YRacks_init 0 := ⟨m_in (i := 363) (by decide +kernel) rfl, m_in (i := 9) (by decide +kernel) rfl, by decide +kernel, ⟨by decide +kernel, by decide +kernel, by decide +kernel⟩, by decide +kernel⟩
def YBags_init : mY := (⟨"SortedOffice$Bags", "<init>", "()V"⟩, prog_2_method_1_code, 1, none)
theorem okBags_init : m_ok YBags_init 0 := ⟨m_in (i := 378) (by decide +kernel) rfl, m_in (i := 10) (by decide +kernel) rfl, by decide +kernel, ⟨by decide +kernel, by decide +kernel, by decide +kernel⟩, by decide +kernel⟩
def YSlips_init : mY := (⟨"SortedOffice$Slips", "<init>", "()V"⟩, prog_10_method_1_code, 1, none)
theorem okSlips_init : m_ok YSlips_init 0 := ⟨m_in (i := 404) (by decide +kernel) rfl, m_in (i := 11) (by decide +kernel) rfl, by decide +kernel, ⟨by decide +kernel, by decide +kernel, by decide +kernel⟩, by decide +kernel⟩
def YChances_init : mY := (⟨"SortedOffice$Chances", "<init>", "()V"⟩, prog_3_method_1_code, 1, none)
theorem okChances_init : m_ok YChances_init 0 := ⟨m_in (i := 429) (by decide +kernel) rfl, m_in (i := 12) (by decide +kernel) rfl, by decide +kernel, ⟨by decide +kernel, by decide +kernel, by decide +kernel⟩, by decide +kernel⟩
def YS_feed : mY := (⟨"SortedOffice", "feed", "(IIIII)I"⟩, prog_1_method_2_code, 6, (some .int))
theorem okS_feed : m_ok YS_feed 5 := ⟨m_in (i := 478) (by decide +kernel) rfl, m_in (i := 1) (by decide +kernel) rfl, by decide +kernel, ⟨by decide +kernel, by decide +kernel, by decide +kernel⟩, by decide +kernel⟩
def YTold_addBytes : mY := (⟨"SortedOffice$Told", "addBytes", "(I)V"⟩, prog_11_method_3_code, 3, none)
theorem okTold_addBytes : m_ok YTold_addBytes 1 := ⟨m_in (i := 482) (by decide +kernel) rfl, m_in (i := 2) (by decide +kernel) rfl, by decide +kernel, ⟨by decide +kernel, by decide +kernel, by decide +kernel⟩, by decide +kernel⟩
def YS_end : mY := (⟨"SortedOffice", "end", "(I)I"⟩, prog_1_method_3_code, 2, (some .int))
theorem okS_end : m_ok YS_end 1 := ⟨m_in (i := 486) (by decide +kernel) rfl, m_in (i := 1) (by decide +kernel) rfl, by decide +kernel, ⟨by decide +kernel, by decide +kernel, by decide +kernel⟩, by decide +kernel⟩
def YS_text : mY := (⟨"SortedOffice", "text", "(II)I"⟩, prog_1_method_4_code, 4, (some .int))
theorem okS_text : m_ok YS_text 2 := ⟨m_in (i := 490) (by decide +kernel) rfl, m_in (i := 1) (by decide +kernel) rfl, by decide +kernel, ⟨by decide +kernel, by decide +kernel, by decide +kernel⟩, by decide +kernel⟩
def YTold_mayTake : mY := (⟨"SortedOffice$Told", "mayTake", "(II)Z"⟩, prog_11_method_4_code, 3, (some .boolean))
theorem okTold_mayTake : m_ok YTold_mayTake 2 := ⟨m_in (i := 494) (by decide +kernel) rfl, m_in (i := 2) (by decide +kernel) rfl, by decide +kernel, ⟨by decide +kernel, by decide +kernel, by decide +kernel⟩, by decide +kernel⟩
def YTold_has : mY := (⟨"SortedOffice$Told", "has", "(II)Z"⟩, prog_11_method_6_code, 3, (some .boolean))
theorem okTold_has : m_ok YTold_has 2 := ⟨m_in (i := 498) (by decide +kernel) rfl, m_in (i := 2) (by decide +kernel) rfl, by decide +kernel, ⟨by decide +kernel, by decide +kernel, by decide +kernel⟩, by decide +kernel⟩
def YReader_read : mY := (⟨"SortedOffice$Reader", "read", "(I[BI)V"⟩, prog_9_method_2_code, 5, none)
theorem okReader_read : m_ok YReader_read 3 := ⟨m_in (i := 502) (by decide +kernel) rfl, m_in (i := 6) (by decide +kernel) rfl, by decide +kernel, ⟨by decide +kernel, by decide +kernel, by decide +kernel⟩, by decide +kernel⟩
def YReader_begin : mY := (⟨"SortedOffice$Reader", "begin", "([BI)V"⟩, prog_9_method_3_code, 3, none)
theorem okReader_begin : m_ok YReader_begin 2 := ⟨m_in (i := 506) (by decide +kernel) rfl, m_in (i := 6) (by decide +kernel) rfl, by decide +kernel, ⟨by decide +kernel, by decide +kernel, by decide +kernel⟩, by decide +kernel⟩
def YMath_min : mY := (⟨"java/lang/Math", "min", "(II)I"⟩, prog_16_method_69_code, 2, (some .int))
def YMath_max : mY := (⟨"java/lang/Math", "max", "(II)I"⟩, prog_16_method_65_code, 2, (some .int))
def YOffice_clear : mY := (⟨"SortedOffice$Office", "clear", "()V"⟩, prog_6_method_2_code, 1, none)
theorem okOffice_clear : m_ok YOffice_clear 0 := ⟨m_in (i := 516) (by decide +kernel) rfl, m_in (i := 3) (by decide +kernel) rfl, by decide +kernel, ⟨by decide +kernel, by decide +kernel, by decide +kernel⟩, by decide +kernel⟩
def YArrays_fill : mY := (⟨"java/util/Arrays", "fill", "([II)V"⟩, prog_21_method_103_code, 4, none)
theorem okArrays_fill : m_ok YArrays_fill 2 := ⟨m_in (i := 519) (by decide +kernel) rfl, m_in (i := 15) (by decide +kernel) rfl, by decide +kernel, ⟨by decide +kernel, by decide +kernel, by decide +kernel⟩, by decide +kernel⟩
def YReader_nextToken : mY := (⟨"SortedOffice$Reader", "nextToken", "()V"⟩, prog_9_method_20_code, 2, none)
theorem okReader_nextToken : m_ok YReader_nextToken 0 := ⟨m_in (i := 523) (by decide +kernel) rfl, m_in (i := 6) (by decide +kernel) rfl, by decide +kernel, ⟨by decide +kernel, by decide +kernel, by decide +kernel⟩, by decide +kernel⟩
def YReader_isBlank : mY := (⟨"SortedOffice$Reader", "isBlank", "(I)Z"⟩, prog_9_method_23_code, 1, (some .boolean))
theorem okReader_isBlank : m_ok YReader_isBlank 1 := ⟨m_in (i := 526) (by decide +kernel) rfl, m_in (i := 6) (by decide +kernel) rfl, by decide +kernel, ⟨by decide +kernel, by decide +kernel, by decide +kernel⟩, by decide +kernel⟩
def YReader_isSmall : mY := (⟨"SortedOffice$Reader", "isSmall", "(I)Z"⟩, prog_9_method_24_code, 1, (some .boolean))
theorem okReader_isSmall : m_ok YReader_isSmall 1 := ⟨m_in (i := 529) (by decide +kernel) rfl, m_in (i := 6) (by decide +kernel) rfl, by decide +kernel, ⟨by decide +kernel, by decide +kernel, by decide +kernel⟩, by decide +kernel⟩
def YReader_takeWord : mY := (⟨"SortedOffice$Reader", "takeWord", "()V"⟩, prog_9_method_21_code, 1, none)
theorem okReader_takeWord : m_ok YReader_takeWord 0 := ⟨m_in (i := 533) (by decide +kernel) rfl, m_in (i := 6) (by decide +kernel) rfl, by decide +kernel, ⟨by decide +kernel, by decide +kernel, by decide +kernel⟩, by decide +kernel⟩
def YReader_isDigit : mY := (⟨"SortedOffice$Reader", "isDigit", "(I)Z"⟩, prog_9_method_25_code, 1, (some .boolean))
theorem okReader_isDigit : m_ok YReader_isDigit 1 := ⟨m_in (i := 536) (by decide +kernel) rfl, m_in (i := 6) (by decide +kernel) rfl, by decide +kernel, ⟨by decide +kernel, by decide +kernel, by decide +kernel⟩, by decide +kernel⟩
def YReader_takeDigits : mY := (⟨"SortedOffice$Reader", "takeDigits", "()V"⟩, prog_9_method_22_code, 1, none)
theorem okReader_takeDigits : m_ok YReader_takeDigits 0 := ⟨m_in (i := 540) (by decide +kernel) rfl, m_in (i := 6) (by decide +kernel) rfl, by decide +kernel, ⟨by decide +kernel, by decide +kernel, by decide +kernel⟩, by decide +kernel⟩
def YReader_readLine : mY := (⟨"SortedOffice$Reader", "readLine", "(I)Z"⟩, prog_9_method_6_code, 5, (some .boolean))
theorem okReader_readLine : m_ok YReader_readLine 1 := ⟨m_in (i := 544) (by decide +kernel) rfl, m_in (i := 6) (by decide +kernel) rfl, by decide +kernel, ⟨by decide +kernel, by decide +kernel, by decide +kernel⟩, by decide +kernel⟩
def YReader_lineAtHand : mY := (⟨"SortedOffice$Reader", "lineAtHand", "(I)I"⟩, prog_9_method_7_code, 2, (some .int))
theorem okReader_lineAtHand : m_ok YReader_lineAtHand 1 := ⟨m_in (i := 548) (by decide +kernel) rfl, m_in (i := 6) (by decide +kernel) rfl, by decide +kernel, ⟨by decide +kernel, by decide +kernel, by decide +kernel⟩, by decide +kernel⟩
def YReader_officeLine : mY := (⟨"SortedOffice$Reader", "officeLine", "()I"⟩, prog_9_method_8_code, 1, (some .int))
theorem okReader_officeLine : m_ok YReader_officeLine 0 := ⟨m_in (i := 552) (by decide +kernel) rfl, m_in (i := 6) (by decide +kernel) rfl, by decide +kernel, ⟨by decide +kernel, by decide +kernel, by decide +kernel⟩, by decide +kernel⟩
def YReader_isWord : mY := (⟨"SortedOffice$Reader", "isWord", "(Ljava/lang/String;)Z"⟩, prog_9_method_26_code, 3, (some .boolean))
theorem okReader_isWord : m_ok YReader_isWord 1 := ⟨m_in (i := 557) (by decide +kernel) rfl, m_in (i := 6) (by decide +kernel) rfl, by decide +kernel, ⟨by decide +kernel, by decide +kernel, by decide +kernel⟩, by decide +kernel⟩
def YString_length : mY := (⟨"java/lang/String", "length", "()I"⟩, prog_17_method_54_code, 1, (some .int))
theorem okString_length : m_ok YString_length 0 := ⟨m_in (i := 561) (by decide +kernel) rfl, m_in (i := 16) (by decide +kernel) rfl, by decide +kernel, ⟨by decide +kernel, by decide +kernel, by decide +kernel⟩, by decide +kernel⟩
def YString_coder : mY := (⟨"java/lang/String", "coder", "()B"⟩, prog_17_method_152_code, 1, (some .byte))
theorem okString_coder : m_ok YString_coder 0 := ⟨m_in (i := 565) (by decide +kernel) rfl, m_in (i := 16) (by decide +kernel) rfl, by decide +kernel, ⟨by decide +kernel, by decide +kernel, by decide +kernel⟩, by decide +kernel⟩
def YString_charAt : mY := (⟨"java/lang/String", "charAt", "(I)C"⟩, prog_17_method_56_code, 2, (some .char))
theorem okString_charAt : m_ok YString_charAt 1 := ⟨m_in (i := 571) (by decide +kernel) rfl, m_in (i := 16) (by decide +kernel) rfl, by decide +kernel, ⟨by decide +kernel, by decide +kernel, by decide +kernel⟩, by decide +kernel⟩
def YString_isLatin1 : mY := (⟨"java/lang/String", "isLatin1", "()Z"⟩, prog_17_method_154_code, 1, (some .boolean))
theorem okString_isLatin1 : m_ok YString_isLatin1 0 := ⟨m_in (i := 575) (by decide +kernel) rfl, m_in (i := 16) (by decide +kernel) rfl, by decide +kernel, ⟨by decide +kernel, by decide +kernel, by decide +kernel⟩, by decide +kernel⟩
def YStringLatin1_charAt : mY := (⟨"java/lang/StringLatin1", "charAt", "([BI)C"⟩, prog_18_method_2_code, 2, (some .char))
theorem okStringLatin1_charAt : m_ok YStringLatin1_charAt 2 := ⟨m_in (i := 578) (by decide +kernel) rfl, m_in (i := 17) (by decide +kernel) rfl, by decide +kernel, ⟨by decide +kernel, by decide +kernel, by decide +kernel⟩, by decide +kernel⟩
def YString_checkIndex : mY := (⟨"java/lang/String", "checkIndex", "(II)V"⟩, prog_17_method_155_code, 2, none)
theorem okString_checkIndex : m_ok YString_checkIndex 2 := ⟨m_in (i := 581) (by decide +kernel) rfl, m_in (i := 16) (by decide +kernel) rfl, by decide +kernel, ⟨by decide +kernel, by decide +kernel, by decide +kernel⟩, by decide +kernel⟩
def YPreconditions_checkIndex : mY := (⟨"jdk/internal/util/Preconditions", "checkIndex", "(IILjava/util/function/BiFunction;)I"⟩, prog_22_method_11_code, 3, (some .int))
theorem okPreconditions_checkIndex : m_ok YPreconditions_checkIndex 3 := ⟨m_in (i := 586) (by decide +kernel) rfl, m_in (i := 18) (by decide +kernel) rfl, by decide +kernel, ⟨by decide +kernel, by decide +kernel, by decide +kernel⟩, by decide +kernel⟩
def YStringUTF16_charAt : mY := (⟨"java/lang/StringUTF16", "charAt", "([BI)C"⟩, prog_19_method_83_code, 2, (some .char))
theorem okStringUTF16_charAt : m_ok YStringUTF16_charAt 2 := ⟨m_in (i := 589) (by decide +kernel) rfl, m_in (i := 19) (by decide +kernel) rfl, by decide +kernel, ⟨by decide +kernel, by decide +kernel, by decide +kernel⟩, by decide +kernel⟩
def YStringUTF16_checkIndex : mY := (⟨"java/lang/StringUTF16", "checkIndex", "(I[B)V"⟩, prog_19_method_91_code, 2, none)
theorem okStringUTF16_checkIndex : m_ok YStringUTF16_checkIndex 2 := ⟨m_in (i := 592) (by decide +kernel) rfl, m_in (i := 19) (by decide +kernel) rfl, by decide +kernel, ⟨by decide +kernel, by decide +kernel, by decide +kernel⟩, by decide +kernel⟩
def YStringUTF16_length : mY := (⟨"java/lang/StringUTF16", "length", "([B)I"⟩, prog_19_method_6_code, 1, (some .int))
theorem okStringUTF16_length : m_ok YStringUTF16_length 1 := ⟨m_in (i := 595) (by decide +kernel) rfl, m_in (i := 19) (by decide +kernel) rfl, by decide +kernel, ⟨by decide +kernel, by decide +kernel, by decide +kernel⟩, by decide +kernel⟩
def YStringUTF16_getChar : mY := (⟨"java/lang/StringUTF16", "getChar", "([BI)C"⟩, prog_19_method_5_code, 2, (some .char))
theorem okStringUTF16_getChar : m_ok YStringUTF16_getChar 2 := ⟨m_in (i := 599) (by decide +kernel) rfl, m_in (i := 19) (by decide +kernel) rfl, by decide +kernel, ⟨by decide +kernel, by decide +kernel, by decide +kernel⟩, by decide +kernel⟩
def YReader_weekLine : mY := (⟨"SortedOffice$Reader", "weekLine", "()I"⟩, prog_9_method_9_code, 1, (some .int))
theorem okReader_weekLine : m_ok YReader_weekLine 0 := ⟨m_in (i := 613) (by decide +kernel) rfl, m_in (i := 6) (by decide +kernel) rfl, by decide +kernel, ⟨by decide +kernel, by decide +kernel, by decide +kernel⟩, by decide +kernel⟩
def YReader_logLine : mY := (⟨"SortedOffice$Reader", "logLine", "()I"⟩, prog_9_method_10_code, 1, (some .int))
theorem okReader_logLine : m_ok YReader_logLine 0 := ⟨m_in (i := 621) (by decide +kernel) rfl, m_in (i := 6) (by decide +kernel) rfl, by decide +kernel, ⟨by decide +kernel, by decide +kernel, by decide +kernel⟩, by decide +kernel⟩
def YReader_shapeOf : mY := (⟨"SortedOffice$Reader", "shapeOf", "(I)Ljava/lang/String;"⟩, prog_9_method_11_code, 1, (some (.object "java/lang/String")))
theorem okReader_shapeOf : m_ok YReader_shapeOf 1 := ⟨m_in (i := 624) (by decide +kernel) rfl, m_in (i := 6) (by decide +kernel) rfl, by decide +kernel, ⟨by decide +kernel, by decide +kernel, by decide +kernel⟩, by decide +kernel⟩
def YReader_takeKind : mY := (⟨"SortedOffice$Reader", "takeKind", "()Z"⟩, prog_9_method_12_code, 2, (some .boolean))
theorem okReader_takeKind : m_ok YReader_takeKind 0 := ⟨m_in (i := 634) (by decide +kernel) rfl, m_in (i := 6) (by decide +kernel) rfl, by decide +kernel, ⟨by decide +kernel, by decide +kernel, by decide +kernel⟩, by decide +kernel⟩
def YReader_kindAtHand : mY := (⟨"SortedOffice$Reader", "kindAtHand", "()I"⟩, prog_9_method_13_code, 1, (some .int))
theorem okReader_kindAtHand : m_ok YReader_kindAtHand 0 := ⟨m_in (i := 638) (by decide +kernel) rfl, m_in (i := 6) (by decide +kernel) rfl, by decide +kernel, ⟨by decide +kernel, by decide +kernel, by decide +kernel⟩, by decide +kernel⟩
def YReader_takeNumber : mY := (⟨"SortedOffice$Reader", "takeNumber", "()Z"⟩, prog_9_method_14_code, 3, (some .boolean))
theorem okReader_takeNumber : m_ok YReader_takeNumber 0 := ⟨m_in (i := 646) (by decide +kernel) rfl, m_in (i := 6) (by decide +kernel) rfl, by decide +kernel, ⟨by decide +kernel, by decide +kernel, by decide +kernel⟩, by decide +kernel⟩
def YReader_noteFaults : mY := (⟨"SortedOffice$Reader", "noteFaults", "(I)V"⟩, prog_9_method_15_code, 5, none)
theorem okReader_noteFaults : m_ok YReader_noteFaults 1 := ⟨m_in (i := 650) (by decide +kernel) rfl, m_in (i := 6) (by decide +kernel) rfl, by decide +kernel, ⟨by decide +kernel, by decide +kernel, by decide +kernel⟩, by decide +kernel⟩
def YReader_isTooMany : mY := (⟨"SortedOffice$Reader", "isTooMany", "(I)Z"⟩, prog_9_method_16_code, 2, (some .boolean))
theorem okReader_isTooMany : m_ok YReader_isTooMany 1 := ⟨m_in (i := 654) (by decide +kernel) rfl, m_in (i := 6) (by decide +kernel) rfl, by decide +kernel, ⟨by decide +kernel, by decide +kernel, by decide +kernel⟩, by decide +kernel⟩
def YReader_lawAtHand : mY := (⟨"SortedOffice$Reader", "lawAtHand", "()I"⟩, prog_9_method_17_code, 1, (some .int))
theorem okReader_lawAtHand : m_ok YReader_lawAtHand 0 := ⟨m_in (i := 658) (by decide +kernel) rfl, m_in (i := 6) (by decide +kernel) rfl, by decide +kernel, ⟨by decide +kernel, by decide +kernel, by decide +kernel⟩, by decide +kernel⟩
def YReader_note : mY := (⟨"SortedOffice$Reader", "note", "(II)V"⟩, prog_9_method_5_code, 3, none)
theorem okReader_note : m_ok YReader_note 2 := ⟨m_in (i := 662) (by decide +kernel) rfl, m_in (i := 6) (by decide +kernel) rfl, by decide +kernel, ⟨by decide +kernel, by decide +kernel, by decide +kernel⟩, by decide +kernel⟩
def YReader_tell : mY := (⟨"SortedOffice$Reader", "tell", "(I)V"⟩, prog_9_method_18_code, 2, none)
theorem okReader_tell : m_ok YReader_tell 1 := ⟨m_in (i := 670) (by decide +kernel) rfl, m_in (i := 6) (by decide +kernel) rfl, by decide +kernel, ⟨by decide +kernel, by decide +kernel, by decide +kernel⟩, by decide +kernel⟩
def YOffice_addLetter : mY := (⟨"SortedOffice$Office", "addLetter", "(III)V"⟩, prog_6_method_9_code, 4, none)
theorem okOffice_addLetter : m_ok YOffice_addLetter 3 := ⟨m_in (i := 674) (by decide +kernel) rfl, m_in (i := 3) (by decide +kernel) rfl, by decide +kernel, ⟨by decide +kernel, by decide +kernel, by decide +kernel⟩, by decide +kernel⟩
def YOffice_plainOf : mY := (⟨"SortedOffice$Office", "plainOf", "(II)I"⟩, prog_6_method_10_code, 2, (some .int))
theorem okOffice_plainOf : m_ok YOffice_plainOf 2 := ⟨m_in (i := 677) (by decide +kernel) rfl, m_in (i := 3) (by decide +kernel) rfl, by decide +kernel, ⟨by decide +kernel, by decide +kernel, by decide +kernel⟩, by decide +kernel⟩
def YReader_tellLaw : mY := (⟨"SortedOffice$Reader", "tellLaw", "()V"⟩, prog_9_method_19_code, 2, none)
theorem okReader_tellLaw : m_ok YReader_tellLaw 0 := ⟨m_in (i := 681) (by decide +kernel) rfl, m_in (i := 6) (by decide +kernel) rfl, by decide +kernel, ⟨by decide +kernel, by decide +kernel, by decide +kernel⟩, by decide +kernel⟩
def YWeek_add : mY := (⟨"SortedOffice$Week", "add", "(III)V"⟩, prog_12_method_3_code, 4, none)
theorem okWeek_add : m_ok YWeek_add 3 := ⟨m_in (i := 685) (by decide +kernel) rfl, m_in (i := 4) (by decide +kernel) rfl, by decide +kernel, ⟨by decide +kernel, by decide +kernel, by decide +kernel⟩, by decide +kernel⟩
def YLog_add : mY := (⟨"SortedOffice$Log", "add", "(II)V"⟩, prog_5_method_3_code, 3, none)
theorem okLog_add : m_ok YLog_add 2 := ⟨m_in (i := 689) (by decide +kernel) rfl, m_in (i := 5) (by decide +kernel) rfl, by decide +kernel, ⟨by decide +kernel, by decide +kernel, by decide +kernel⟩, by decide +kernel⟩
def YReader_allThere : mY := (⟨"SortedOffice$Reader", "allThere", "()Z"⟩, prog_9_method_4_code, 1, (some .boolean))
theorem okReader_allThere : m_ok YReader_allThere 0 := ⟨m_in (i := 693) (by decide +kernel) rfl, m_in (i := 6) (by decide +kernel) rfl, by decide +kernel, ⟨by decide +kernel, by decide +kernel, by decide +kernel⟩, by decide +kernel⟩
def YTold_take : mY := (⟨"SortedOffice$Told", "take", "(IILSortedOffice$Reader;)I"⟩, prog_11_method_5_code, 5, (some .int))
theorem okTold_take : m_ok YTold_take 3 := ⟨m_in (i := 697) (by decide +kernel) rfl, m_in (i := 2) (by decide +kernel) rfl, by decide +kernel, ⟨by decide +kernel, by decide +kernel, by decide +kernel⟩, by decide +kernel⟩
def YOffice_copyFrom : mY := (⟨"SortedOffice$Office", "copyFrom", "(LSortedOffice$Office;)V"⟩, prog_6_method_3_code, 2, none)
theorem okOffice_copyFrom : m_ok YOffice_copyFrom 1 := ⟨m_in (i := 702) (by decide +kernel) rfl, m_in (i := 3) (by decide +kernel) rfl, by decide +kernel, ⟨by decide +kernel, by decide +kernel, by decide +kernel⟩, by decide +kernel⟩
def YWeek_copyFrom : mY := (⟨"SortedOffice$Week", "copyFrom", "(LSortedOffice$Week;)V"⟩, prog_12_method_2_code, 2, none)
theorem okWeek_copyFrom : m_ok YWeek_copyFrom 1 := ⟨m_in (i := 709) (by decide +kernel) rfl, m_in (i := 4) (by decide +kernel) rfl, by decide +kernel, ⟨by decide +kernel, by decide +kernel, by decide +kernel⟩, by decide +kernel⟩
def YLog_copyFrom : mY := (⟨"SortedOffice$Log", "copyFrom", "(LSortedOffice$Log;)V"⟩, prog_5_method_2_code, 2, none)
theorem okLog_copyFrom : m_ok YLog_copyFrom 1 := ⟨m_in (i := 714) (by decide +kernel) rfl, m_in (i := 5) (by decide +kernel) rfl, by decide +kernel, ⟨by decide +kernel, by decide +kernel, by decide +kernel⟩, by decide +kernel⟩
def YS_fault : mY := (⟨"SortedOffice", "fault", "(I)I"⟩, prog_1_method_5_code, 2, (some .int))
theorem okS_fault : m_ok YS_fault 1 := ⟨m_in (i := 719) (by decide +kernel) rfl, m_in (i := 1) (by decide +kernel) rfl, by decide +kernel, ⟨by decide +kernel, by decide +kernel, by decide +kernel⟩, by decide +kernel⟩
def YS_office : mY := (⟨"SortedOffice", "office", "(II)I"⟩, prog_1_method_6_code, 4, (some .int))
theorem okS_office : m_ok YS_office 2 := ⟨m_in (i := 723) (by decide +kernel) rfl, m_in (i := 1) (by decide +kernel) rfl, by decide +kernel, ⟨by decide +kernel, by decide +kernel, by decide +kernel⟩, by decide +kernel⟩
def YTold_officeAt : mY := (⟨"SortedOffice$Told", "officeAt", "(I)LSortedOffice$Office;"⟩, prog_11_method_7_code, 2, (some (.object "SortedOffice$Office")))
theorem okTold_officeAt : m_ok YTold_officeAt 1 := ⟨m_in (i := 727) (by decide +kernel) rfl, m_in (i := 2) (by decide +kernel) rfl, by decide +kernel, ⟨by decide +kernel, by decide +kernel, by decide +kernel⟩, by decide +kernel⟩
def YOffice_answer : mY := (⟨"SortedOffice$Office", "answer", "(I)I"⟩, prog_6_method_6_code, 3, (some .int))
theorem okOffice_answer : m_ok YOffice_answer 1 := ⟨m_in (i := 731) (by decide +kernel) rfl, m_in (i := 3) (by decide +kernel) rfl, by decide +kernel, ⟨by decide +kernel, by decide +kernel, by decide +kernel⟩, by decide +kernel⟩
def YOffice_sizeOf : mY := (⟨"SortedOffice$Office", "sizeOf", "(I)I"⟩, prog_6_method_7_code, 2, (some .int))
theorem okOffice_sizeOf : m_ok YOffice_sizeOf 1 := ⟨m_in (i := 735) (by decide +kernel) rfl, m_in (i := 3) (by decide +kernel) rfl, by decide +kernel, ⟨by decide +kernel, by decide +kernel, by decide +kernel⟩, by decide +kernel⟩
def YOffice_hasHouse : mY := (⟨"SortedOffice$Office", "hasHouse", "(I)Z"⟩, prog_6_method_4_code, 2, (some .boolean))
theorem okOffice_hasHouse : m_ok YOffice_hasHouse 1 := ⟨m_in (i := 739) (by decide +kernel) rfl, m_in (i := 3) (by decide +kernel) rfl, by decide +kernel, ⟨by decide +kernel, by decide +kernel, by decide +kernel⟩, by decide +kernel⟩
def YOffice_hasLetter : mY := (⟨"SortedOffice$Office", "hasLetter", "(I)Z"⟩, prog_6_method_5_code, 2, (some .boolean))
theorem okOffice_hasLetter : m_ok YOffice_hasLetter 1 := ⟨m_in (i := 743) (by decide +kernel) rfl, m_in (i := 3) (by decide +kernel) rfl, by decide +kernel, ⟨by decide +kernel, by decide +kernel, by decide +kernel⟩, by decide +kernel⟩
def YOffice_ofLetter : mY := (⟨"SortedOffice$Office", "ofLetter", "(II)I"⟩, prog_6_method_8_code, 3, (some .int))
theorem okOffice_ofLetter : m_ok YOffice_ofLetter 2 := ⟨m_in (i := 747) (by decide +kernel) rfl, m_in (i := 3) (by decide +kernel) rfl, by decide +kernel, ⟨by decide +kernel, by decide +kernel, by decide +kernel⟩, by decide +kernel⟩
def YS_doing : mY := (⟨"SortedOffice", "doing", "(III)I"⟩, prog_1_method_7_code, 5, (some .int))
theorem okS_doing : m_ok YS_doing 3 := ⟨m_in (i := 751) (by decide +kernel) rfl, m_in (i := 1) (by decide +kernel) rfl, by decide +kernel, ⟨by decide +kernel, by decide +kernel, by decide +kernel⟩, by decide +kernel⟩
def YOffice_does : mY := (⟨"SortedOffice$Office", "does", "(II)I"⟩, prog_6_method_11_code, 4, (some .int))
theorem okOffice_does : m_ok YOffice_does 2 := ⟨m_in (i := 756) (by decide +kernel) rfl, m_in (i := 3) (by decide +kernel) rfl, by decide +kernel, ⟨by decide +kernel, by decide +kernel, by decide +kernel⟩, by decide +kernel⟩
def YS_deed : mY := (⟨"SortedOffice", "deed", "(III)I"⟩, prog_1_method_8_code, 5, (some .int))
theorem okS_deed : m_ok YS_deed 3 := ⟨m_in (i := 760) (by decide +kernel) rfl, m_in (i := 1) (by decide +kernel) rfl, by decide +kernel, ⟨by decide +kernel, by decide +kernel, by decide +kernel⟩, by decide +kernel⟩
def YTold_weekAt : mY := (⟨"SortedOffice$Told", "weekAt", "(I)LSortedOffice$Week;"⟩, prog_11_method_8_code, 2, (some (.object "SortedOffice$Week")))
theorem okTold_weekAt : m_ok YTold_weekAt 1 := ⟨m_in (i := 764) (by decide +kernel) rfl, m_in (i := 2) (by decide +kernel) rfl, by decide +kernel, ⟨by decide +kernel, by decide +kernel, by decide +kernel⟩, by decide +kernel⟩
def YWeek_answer : mY := (⟨"SortedOffice$Week", "answer", "(II)I"⟩, prog_12_method_4_code, 3, (some .int))
theorem okWeek_answer : m_ok YWeek_answer 2 := ⟨m_in (i := 768) (by decide +kernel) rfl, m_in (i := 4) (by decide +kernel) rfl, by decide +kernel, ⟨by decide +kernel, by decide +kernel, by decide +kernel⟩, by decide +kernel⟩
def YS_till : mY := (⟨"SortedOffice", "till", "(II)I"⟩, prog_1_method_9_code, 5, (some .int))
theorem okS_till : m_ok YS_till 2 := ⟨m_in (i := 772) (by decide +kernel) rfl, m_in (i := 1) (by decide +kernel) rfl, by decide +kernel, ⟨by decide +kernel, by decide +kernel, by decide +kernel⟩, by decide +kernel⟩
def YCourse_run : mY := (⟨"SortedOffice$Course", "run", "(LSortedOffice$Office;LSortedOffice$Week;I)I"⟩, prog_4_method_3_code, 6, (some .int))
theorem okCourse_run : m_ok YCourse_run 3 := ⟨m_in (i := 776) (by decide +kernel) rfl, m_in (i := 7) (by decide +kernel) rfl, by decide +kernel, ⟨by decide +kernel, by decide +kernel, by decide +kernel⟩, by decide +kernel⟩
def YCourse_begin : mY := (⟨"SortedOffice$Course", "begin", "(LSortedOffice$Office;)V"⟩, prog_4_method_2_code, 2, none)
theorem okCourse_begin : m_ok YCourse_begin 1 := ⟨m_in (i := 780) (by decide +kernel) rfl, m_in (i := 7) (by decide +kernel) rfl, by decide +kernel, ⟨by decide +kernel, by decide +kernel, by decide +kernel⟩, by decide +kernel⟩
def YCourse_noteLow : mY := (⟨"SortedOffice$Course", "noteLow", "()V"⟩, prog_4_method_10_code, 2, none)
theorem okCourse_noteLow : m_ok YCourse_noteLow 0 := ⟨m_in (i := 786) (by decide +kernel) rfl, m_in (i := 7) (by decide +kernel) rfl, by decide +kernel, ⟨by decide +kernel, by decide +kernel, by decide +kernel⟩, by decide +kernel⟩
def YCourse_mayDo : mY := (⟨"SortedOffice$Course", "mayDo", "(III)Z"⟩, prog_4_method_7_code, 4, (some .boolean))
theorem okCourse_mayDo : m_ok YCourse_mayDo 3 := ⟨m_in (i := 791) (by decide +kernel) rfl, m_in (i := 7) (by decide +kernel) rfl, by decide +kernel, ⟨by decide +kernel, by decide +kernel, by decide +kernel⟩, by decide +kernel⟩
def YCourse_passNight : mY := (⟨"SortedOffice$Course", "passNight", "()V"⟩, prog_4_method_8_code, 2, none)
theorem okCourse_passNight : m_ok YCourse_passNight 0 := ⟨m_in (i := 795) (by decide +kernel) rfl, m_in (i := 7) (by decide +kernel) rfl, by decide +kernel, ⟨by decide +kernel, by decide +kernel, by decide +kernel⟩, by decide +kernel⟩
def YInteger_compare : mY := (⟨"java/lang/Integer", "compare", "(II)I"⟩, prog_15_method_40_code, 2, (some .int))
theorem okInteger_compare : m_ok YInteger_compare 2 := ⟨m_in (i := 798) (by decide +kernel) rfl, m_in (i := 21) (by decide +kernel) rfl, by decide +kernel, ⟨by decide +kernel, by decide +kernel, by decide +kernel⟩, by decide +kernel⟩
def YCourse_bring : mY := (⟨"SortedOffice$Course", "bring", "(II)V"⟩, prog_4_method_9_code, 4, none)
theorem okCourse_bring : m_ok YCourse_bring 2 := ⟨m_in (i := 804) (by decide +kernel) rfl, m_in (i := 7) (by decide +kernel) rfl, by decide +kernel, ⟨by decide +kernel, by decide +kernel, by decide +kernel⟩, by decide +kernel⟩
def YS_state : mY := (⟨"SortedOffice", "state", "(IIII)I"⟩, prog_1_method_10_code, 7, (some .int))
theorem okS_state : m_ok YS_state 4 := ⟨m_in (i := 809) (by decide +kernel) rfl, m_in (i := 1) (by decide +kernel) rfl, by decide +kernel, ⟨by decide +kernel, by decide +kernel, by decide +kernel⟩, by decide +kernel⟩
def YCourse_answer : mY := (⟨"SortedOffice$Course", "answer", "(I)I"⟩, prog_4_method_11_code, 2, (some .int))
theorem okCourse_answer : m_ok YCourse_answer 1 := ⟨m_in (i := 813) (by decide +kernel) rfl, m_in (i := 7) (by decide +kernel) rfl, by decide +kernel, ⟨by decide +kernel, by decide +kernel, by decide +kernel⟩, by decide +kernel⟩
def YCourse_moodsTogether : mY := (⟨"SortedOffice$Course", "moodsTogether", "()I"⟩, prog_4_method_12_code, 3, (some .int))
theorem okCourse_moodsTogether : m_ok YCourse_moodsTogether 0 := ⟨m_in (i := 817) (by decide +kernel) rfl, m_in (i := 7) (by decide +kernel) rfl, by decide +kernel, ⟨by decide +kernel, by decide +kernel, by decide +kernel⟩, by decide +kernel⟩
def YCourse_ofHouse : mY := (⟨"SortedOffice$Course", "ofHouse", "(II)I"⟩, prog_4_method_13_code, 3, (some .int))
theorem okCourse_ofHouse : m_ok YCourse_ofHouse 2 := ⟨m_in (i := 821) (by decide +kernel) rfl, m_in (i := 7) (by decide +kernel) rfl, by decide +kernel, ⟨by decide +kernel, by decide +kernel, by decide +kernel⟩, by decide +kernel⟩
def YS_order : mY := (⟨"SortedOffice", "order", "(IIZI)I"⟩, prog_1_method_11_code, 7, (some .int))
theorem okS_order : m_ok YS_order 4 := ⟨m_in (i := 825) (by decide +kernel) rfl, m_in (i := 1) (by decide +kernel) rfl, by decide +kernel, ⟨by decide +kernel, by decide +kernel, by decide +kernel⟩, by decide +kernel⟩
def YOrders_moodOf : mY := (⟨"SortedOffice$Orders", "moodOf", "(LSortedOffice$Office;IIZ)I"⟩, prog_7_method_2_code, 7, (some .int))
theorem okOrders_moodOf : m_ok YOrders_moodOf 4 := ⟨m_in (i := 830) (by decide +kernel) rfl, m_in (i := 8) (by decide +kernel) rfl, by decide +kernel, ⟨by decide +kernel, by decide +kernel, by decide +kernel⟩, by decide +kernel⟩
def YOrders_addToGroup : mY := (⟨"SortedOffice$Orders", "addToGroup", "(LSortedOffice$Office;II)V"⟩, prog_7_method_3_code, 6, none)
theorem okOrders_addToGroup : m_ok YOrders_addToGroup 3 := ⟨m_in (i := 834) (by decide +kernel) rfl, m_in (i := 8) (by decide +kernel) rfl, by decide +kernel, ⟨by decide +kernel, by decide +kernel, by decide +kernel⟩, by decide +kernel⟩
def YOrders_fillGains : mY := (⟨"SortedOffice$Orders", "fillGains", "(I)V"⟩, prog_7_method_4_code, 8, none)
theorem okOrders_fillGains : m_ok YOrders_fillGains 1 := ⟨m_in (i := 839) (by decide +kernel) rfl, m_in (i := 8) (by decide +kernel) rfl, by decide +kernel, ⟨by decide +kernel, by decide +kernel, by decide +kernel⟩, by decide +kernel⟩
def YOrders_letterAt : mY := (⟨"SortedOffice$Orders", "letterAt", "(I)I"⟩, prog_7_method_5_code, 6, (some .int))
theorem okOrders_letterAt : m_ok YOrders_letterAt 1 := ⟨m_in (i := 843) (by decide +kernel) rfl, m_in (i := 8) (by decide +kernel) rfl, by decide +kernel, ⟨by decide +kernel, by decide +kernel, by decide +kernel⟩, by decide +kernel⟩
def YOrders_firstPlace : mY := (⟨"SortedOffice$Orders", "firstPlace", "(II)I"⟩, prog_7_method_6_code, 5, (some .int))
theorem okOrders_firstPlace : m_ok YOrders_firstPlace 2 := ⟨m_in (i := 847) (by decide +kernel) rfl, m_in (i := 8) (by decide +kernel) rfl, by decide +kernel, ⟨by decide +kernel, by decide +kernel, by decide +kernel⟩, by decide +kernel⟩
def YS_mean : mY := (⟨"SortedOffice", "mean", "(IIZ)J"⟩, prog_1_method_12_code, 5, (some .long))
theorem okS_mean : m_ok YS_mean 3 := ⟨m_in (i := 851) (by decide +kernel) rfl, m_in (i := 1) (by decide +kernel) rfl, by decide +kernel, ⟨by decide +kernel, by decide +kernel, by decide +kernel⟩, by decide +kernel⟩
def YChances_findMean : mY := (⟨"SortedOffice$Chances", "findMean", "(LSortedOffice$Office;I)V"⟩, prog_3_method_4_code, 6, none)
theorem okChances_findMean : m_ok YChances_findMean 2 := ⟨m_in (i := 856) (by decide +kernel) rfl, m_in (i := 12) (by decide +kernel) rfl, by decide +kernel, ⟨by decide +kernel, by decide +kernel, by decide +kernel⟩, by decide +kernel⟩
def YOffice_lettersOf : mY := (⟨"SortedOffice$Office", "lettersOf", "(I)I"⟩, prog_6_method_12_code, 4, (some .int))
theorem okOffice_lettersOf : m_ok YOffice_lettersOf 1 := ⟨m_in (i := 860) (by decide +kernel) rfl, m_in (i := 3) (by decide +kernel) rfl, by decide +kernel, ⟨by decide +kernel, by decide +kernel, by decide +kernel⟩, by decide +kernel⟩
def YInteger_bitCount : mY := (⟨"java/lang/Integer", "bitCount", "(I)I"⟩, prog_15_method_49_code, 1, (some .int))
theorem okInteger_bitCount : m_ok YInteger_bitCount 1 := ⟨m_in (i := 863) (by decide +kernel) rfl, m_in (i := 21) (by decide +kernel) rfl, by decide +kernel, ⟨by decide +kernel, by decide +kernel, by decide +kernel⟩, by decide +kernel⟩
def YChances_answer : mY := (⟨"SortedOffice$Chances", "answer", "(Z)J"⟩, prog_3_method_2_code, 4, (some .long))
theorem okChances_answer : m_ok YChances_answer 1 := ⟨m_in (i := 872) (by decide +kernel) rfl, m_in (i := 12) (by decide +kernel) rfl, by decide +kernel, ⟨by decide +kernel, by decide +kernel, by decide +kernel⟩, by decide +kernel⟩
def YMath_abs : mY := (⟨"java/lang/Math", "abs", "(J)J"⟩, prog_16_method_61_code, 2, (some .long))
def YChances_commonOf : mY := (⟨"SortedOffice$Chances", "commonOf", "(JJ)J"⟩, prog_3_method_3_code, 11, (some .long))
theorem okChances_commonOf : m_ok YChances_commonOf 2 := ⟨m_in (i := 878) (by decide +kernel) rfl, m_in (i := 12) (by decide +kernel) rfl, by decide +kernel, ⟨by decide +kernel, by decide +kernel, by decide +kernel⟩, by decide +kernel⟩
def YS_spared : mY := (⟨"SortedOffice", "spared", "(IIIIZ)J"⟩, prog_1_method_13_code, 7, (some .long))
theorem okS_spared : m_ok YS_spared 5 := ⟨m_in (i := 882) (by decide +kernel) rfl, m_in (i := 1) (by decide +kernel) rfl, by decide +kernel, ⟨by decide +kernel, by decide +kernel, by decide +kernel⟩, by decide +kernel⟩
def YChances_findSpared : mY := (⟨"SortedOffice$Chances", "findSpared", "(LSortedOffice$Office;III)V"⟩, prog_3_method_5_code, 9, none)
theorem okChances_findSpared : m_ok YChances_findSpared 4 := ⟨m_in (i := 887) (by decide +kernel) rfl, m_in (i := 12) (by decide +kernel) rfl, by decide +kernel, ⟨by decide +kernel, by decide +kernel, by decide +kernel⟩, by decide +kernel⟩
def YChances_power : mY := (⟨"SortedOffice$Chances", "power", "(II)J"⟩, prog_3_method_6_code, 5, (some .long))
theorem okChances_power : m_ok YChances_power 2 := ⟨m_in (i := 890) (by decide +kernel) rfl, m_in (i := 12) (by decide +kernel) rfl, by decide +kernel, ⟨by decide +kernel, by decide +kernel, by decide +kernel⟩, by decide +kernel⟩
def YOffice_moodBehind : mY := (⟨"SortedOffice$Office", "moodBehind", "(II)I"⟩, prog_6_method_13_code, 6, (some .int))
theorem okOffice_moodBehind : m_ok YOffice_moodBehind 2 := ⟨m_in (i := 894) (by decide +kernel) rfl, m_in (i := 3) (by decide +kernel) rfl, by decide +kernel, ⟨by decide +kernel, by decide +kernel, by decide +kernel⟩, by decide +kernel⟩
def YS_rack : mY := (⟨"SortedOffice", "rack", "(III)I"⟩, prog_1_method_14_code, 5, (some .int))
theorem okS_rack : m_ok YS_rack 3 := ⟨m_in (i := 899) (by decide +kernel) rfl, m_in (i := 1) (by decide +kernel) rfl, by decide +kernel, ⟨by decide +kernel, by decide +kernel, by decide +kernel⟩, by decide +kernel⟩
def YRacks_rackOf : mY := (⟨"SortedOffice$Racks", "rackOf", "(LSortedOffice$Office;II)I"⟩, prog_8_method_5_code, 4, (some .int))
theorem okRacks_rackOf : m_ok YRacks_rackOf 3 := ⟨m_in (i := 903) (by decide +kernel) rfl, m_in (i := 9) (by decide +kernel) rfl, by decide +kernel, ⟨by decide +kernel, by decide +kernel, by decide +kernel⟩, by decide +kernel⟩
def YRacks_behindRounds : mY := (⟨"SortedOffice$Racks", "behindRounds", "(LSortedOffice$Office;I)I"⟩, prog_8_method_4_code, 4, (some .int))
theorem okRacks_behindRounds : m_ok YRacks_behindRounds 2 := ⟨m_in (i := 906) (by decide +kernel) rfl, m_in (i := 9) (by decide +kernel) rfl, by decide +kernel, ⟨by decide +kernel, by decide +kernel, by decide +kernel⟩, by decide +kernel⟩
def YRacks_atFirst : mY := (⟨"SortedOffice$Racks", "atFirst", "(LSortedOffice$Office;)I"⟩, prog_8_method_2_code, 3, (some .int))
theorem okRacks_atFirst : m_ok YRacks_atFirst 1 := ⟨m_in (i := 909) (by decide +kernel) rfl, m_in (i := 9) (by decide +kernel) rfl, by decide +kernel, ⟨by decide +kernel, by decide +kernel, by decide +kernel⟩, by decide +kernel⟩
def YRacks_behindRound : mY := (⟨"SortedOffice$Racks", "behindRound", "(LSortedOffice$Office;I)I"⟩, prog_8_method_3_code, 6, (some .int))
theorem okRacks_behindRound : m_ok YRacks_behindRound 2 := ⟨m_in (i := 912) (by decide +kernel) rfl, m_in (i := 9) (by decide +kernel) rfl, by decide +kernel, ⟨by decide +kernel, by decide +kernel, by decide +kernel⟩, by decide +kernel⟩
def YS_settled : mY := (⟨"SortedOffice", "settled", "(II)I"⟩, prog_1_method_15_code, 4, (some .int))
theorem okS_settled : m_ok YS_settled 2 := ⟨m_in (i := 916) (by decide +kernel) rfl, m_in (i := 1) (by decide +kernel) rfl, by decide +kernel, ⟨by decide +kernel, by decide +kernel, by decide +kernel⟩, by decide +kernel⟩
def YRacks_settledBehind : mY := (⟨"SortedOffice$Racks", "settledBehind", "(LSortedOffice$Office;)I"⟩, prog_8_method_6_code, 5, (some .int))
theorem okRacks_settledBehind : m_ok YRacks_settledBehind 1 := ⟨m_in (i := 920) (by decide +kernel) rfl, m_in (i := 9) (by decide +kernel) rfl, by decide +kernel, ⟨by decide +kernel, by decide +kernel, by decide +kernel⟩, by decide +kernel⟩
def YRacks_findRing : mY := (⟨"SortedOffice$Racks", "findRing", "(LSortedOffice$Office;)V"⟩, prog_8_method_7_code, 6, none)
theorem okRacks_findRing : m_ok YRacks_findRing 1 := ⟨m_in (i := 924) (by decide +kernel) rfl, m_in (i := 9) (by decide +kernel) rfl, by decide +kernel, ⟨by decide +kernel, by decide +kernel, by decide +kernel⟩, by decide +kernel⟩
def YS_bags : mY := (⟨"SortedOffice", "bags", "(IIII)I"⟩, prog_1_method_16_code, 7, (some .int))
theorem okS_bags : m_ok YS_bags 4 := ⟨m_in (i := 928) (by decide +kernel) rfl, m_in (i := 1) (by decide +kernel) rfl, by decide +kernel, ⟨by decide +kernel, by decide +kernel, by decide +kernel⟩, by decide +kernel⟩
def YBags_fewest : mY := (⟨"SortedOffice$Bags", "fewest", "(LSortedOffice$Office;II)I"⟩, prog_2_method_2_code, 5, (some .int))
theorem okBags_fewest : m_ok YBags_fewest 3 := ⟨m_in (i := 932) (by decide +kernel) rfl, m_in (i := 10) (by decide +kernel) rfl, by decide +kernel, ⟨by decide +kernel, by decide +kernel, by decide +kernel⟩, by decide +kernel⟩
def YBags_place : mY := (⟨"SortedOffice$Bags", "place", "(III)Z"⟩, prog_2_method_3_code, 8, (some .boolean))
theorem okBags_place : m_ok YBags_place 3 := ⟨m_in (i := 937) (by decide +kernel) rfl, m_in (i := 10) (by decide +kernel) rfl, by decide +kernel, ⟨by decide +kernel, by decide +kernel, by decide +kernel⟩, by decide +kernel⟩
def YS_sorters : mY := (⟨"SortedOffice", "sorters", "(IZ)I"⟩, prog_1_method_17_code, 4, (some .int))
theorem okS_sorters : m_ok YS_sorters 2 := ⟨m_in (i := 942) (by decide +kernel) rfl, m_in (i := 1) (by decide +kernel) rfl, by decide +kernel, ⟨by decide +kernel, by decide +kernel, by decide +kernel⟩, by decide +kernel⟩
def YOrders_lead : mY := (⟨"SortedOffice$Orders", "lead", "(LSortedOffice$Office;Z)I"⟩, prog_7_method_14_code, 9, (some .int))
theorem okOrders_lead : m_ok YOrders_lead 2 := ⟨m_in (i := 946) (by decide +kernel) rfl, m_in (i := 8) (by decide +kernel) rfl, by decide +kernel, ⟨by decide +kernel, by decide +kernel, by decide +kernel⟩, by decide +kernel⟩
def YS_fact : mY := (⟨"SortedOffice", "fact", "(III)I"⟩, prog_1_method_18_code, 5, (some .int))
theorem okS_fact : m_ok YS_fact 3 := ⟨m_in (i := 952) (by decide +kernel) rfl, m_in (i := 1) (by decide +kernel) rfl, by decide +kernel, ⟨by decide +kernel, by decide +kernel, by decide +kernel⟩, by decide +kernel⟩
def YTold_logAt : mY := (⟨"SortedOffice$Told", "logAt", "(I)LSortedOffice$Log;"⟩, prog_11_method_9_code, 2, (some (.object "SortedOffice$Log")))
theorem okTold_logAt : m_ok YTold_logAt 1 := ⟨m_in (i := 956) (by decide +kernel) rfl, m_in (i := 2) (by decide +kernel) rfl, by decide +kernel, ⟨by decide +kernel, by decide +kernel, by decide +kernel⟩, by decide +kernel⟩
def YLog_answer : mY := (⟨"SortedOffice$Log", "answer", "(II)I"⟩, prog_5_method_4_code, 3, (some .int))
theorem okLog_answer : m_ok YLog_answer 2 := ⟨m_in (i := 960) (by decide +kernel) rfl, m_in (i := 5) (by decide +kernel) rfl, by decide +kernel, ⟨by decide +kernel, by decide +kernel, by decide +kernel⟩, by decide +kernel⟩
def YS_fits : mY := (⟨"SortedOffice", "fits", "(III)I"⟩, prog_1_method_19_code, 6, (some .int))
theorem okS_fits : m_ok YS_fits 3 := ⟨m_in (i := 964) (by decide +kernel) rfl, m_in (i := 1) (by decide +kernel) rfl, by decide +kernel, ⟨by decide +kernel, by decide +kernel, by decide +kernel⟩, by decide +kernel⟩
def YLog_allIn : mY := (⟨"SortedOffice$Log", "allIn", "(LSortedOffice$Office;)Z"⟩, prog_5_method_5_code, 3, (some .boolean))
theorem okLog_allIn : m_ok YLog_allIn 1 := ⟨m_in (i := 968) (by decide +kernel) rfl, m_in (i := 5) (by decide +kernel) rfl, by decide +kernel, ⟨by decide +kernel, by decide +kernel, by decide +kernel⟩, by decide +kernel⟩
def YSlips_find : mY := (⟨"SortedOffice$Slips", "find", "(LSortedOffice$Office;LSortedOffice$Log;)V"⟩, prog_10_method_2_code, 5, none)
theorem okSlips_find : m_ok YSlips_find 2 := ⟨m_in (i := 973) (by decide +kernel) rfl, m_in (i := 11) (by decide +kernel) rfl, by decide +kernel, ⟨by decide +kernel, by decide +kernel, by decide +kernel⟩, by decide +kernel⟩
def YSlips_tryOut : mY := (⟨"SortedOffice$Slips", "tryOut", "(LSortedOffice$Office;LSortedOffice$Log;I)V"⟩, prog_10_method_3_code, 6, none)
theorem okSlips_tryOut : m_ok YSlips_tryOut 3 := ⟨m_in (i := 977) (by decide +kernel) rfl, m_in (i := 11) (by decide +kernel) rfl, by decide +kernel, ⟨by decide +kernel, by decide +kernel, by decide +kernel⟩, by decide +kernel⟩
def YSlips_agrees : mY := (⟨"SortedOffice$Slips", "agrees", "(LSortedOffice$Office;LSortedOffice$Log;)Z"⟩, prog_10_method_4_code, 5, (some .boolean))
theorem okSlips_agrees : m_ok YSlips_agrees 2 := ⟨m_in (i := 983) (by decide +kernel) rfl, m_in (i := 11) (by decide +kernel) rfl, by decide +kernel, ⟨by decide +kernel, by decide +kernel, by decide +kernel⟩, by decide +kernel⟩
def YSlips_answer : mY := (⟨"SortedOffice$Slips", "answer", "(I)I"⟩, prog_10_method_6_code, 2, (some .int))
theorem okSlips_answer : m_ok YSlips_answer 1 := ⟨m_in (i := 989) (by decide +kernel) rfl, m_in (i := 11) (by decide +kernel) rfl, by decide +kernel, ⟨by decide +kernel, by decide +kernel, by decide +kernel⟩, by decide +kernel⟩
def YSlips_sureLetter : mY := (⟨"SortedOffice$Slips", "sureLetter", "()I"⟩, prog_10_method_7_code, 2, (some .int))
theorem okSlips_sureLetter : m_ok YSlips_sureLetter 0 := ⟨m_in (i := 993) (by decide +kernel) rfl, m_in (i := 11) (by decide +kernel) rfl, by decide +kernel, ⟨by decide +kernel, by decide +kernel, by decide +kernel⟩, by decide +kernel⟩
def YSlips_sureHouse : mY := (⟨"SortedOffice$Slips", "sureHouse", "()I"⟩, prog_10_method_8_code, 2, (some .int))
theorem okSlips_sureHouse : m_ok YSlips_sureHouse 0 := ⟨m_in (i := 997) (by decide +kernel) rfl, m_in (i := 11) (by decide +kernel) rfl, by decide +kernel, ⟨by decide +kernel, by decide +kernel, by decide +kernel⟩, by decide +kernel⟩
def YSlips_ask : mY := (⟨"SortedOffice$Slips", "ask", "()I"⟩, prog_10_method_9_code, 5, (some .int))
theorem okSlips_ask : m_ok YSlips_ask 0 := ⟨m_in (i := 1001) (by decide +kernel) rfl, m_in (i := 11) (by decide +kernel) rfl, by decide +kernel, ⟨by decide +kernel, by decide +kernel, by decide +kernel⟩, by decide +kernel⟩
def YSlips_greatestAlike : mY := (⟨"SortedOffice$Slips", "greatestAlike", "(I)I"⟩, prog_10_method_10_code, 6, (some .int))
theorem okSlips_greatestAlike : m_ok YSlips_greatestAlike 1 := ⟨m_in (i := 1005) (by decide +kernel) rfl, m_in (i := 11) (by decide +kernel) rfl, by decide +kernel, ⟨by decide +kernel, by decide +kernel, by decide +kernel⟩, by decide +kernel⟩
def YSlips_moodOf : mY := (⟨"SortedOffice$Slips", "moodOf", "(II)I"⟩, prog_10_method_5_code, 3, (some .int))
theorem okSlips_moodOf : m_ok YSlips_moodOf 2 := ⟨m_in (i := 1009) (by decide +kernel) rfl, m_in (i := 11) (by decide +kernel) rfl, by decide +kernel, ⟨by decide +kernel, by decide +kernel, by decide +kernel⟩, by decide +kernel⟩
def YS_drawn : mY := (⟨"SortedOffice", "drawn", "(IIII)I"⟩, prog_1_method_20_code, 6, (some .int))
theorem okS_drawn : m_ok YS_drawn 4 := ⟨m_in (i := 1014) (by decide +kernel) rfl, m_in (i := 1) (by decide +kernel) rfl, by decide +kernel, ⟨by decide +kernel, by decide +kernel, by decide +kernel⟩, by decide +kernel⟩
def YCourse_draw : mY := (⟨"SortedOffice$Course", "draw", "(LSortedOffice$Office;II)V"⟩, prog_4_method_4_code, 5, none)
theorem okCourse_draw : m_ok YCourse_draw 3 := ⟨m_in (i := 1018) (by decide +kernel) rfl, m_in (i := 7) (by decide +kernel) rfl, by decide +kernel, ⟨by decide +kernel, by decide +kernel, by decide +kernel⟩, by decide +kernel⟩
def YCourse_drawDeed : mY := (⟨"SortedOffice$Course", "drawDeed", "()V"⟩, prog_4_method_5_code, 3, none)
theorem okCourse_drawDeed : m_ok YCourse_drawDeed 0 := ⟨m_in (i := 1022) (by decide +kernel) rfl, m_in (i := 7) (by decide +kernel) rfl, by decide +kernel, ⟨by decide +kernel, by decide +kernel, by decide +kernel⟩, by decide +kernel⟩
def YCourse_drawBelow : mY := (⟨"SortedOffice$Course", "drawBelow", "(I)I"⟩, prog_4_method_6_code, 2, (some .int))
theorem okCourse_drawBelow : m_ok YCourse_drawBelow 1 := ⟨m_in (i := 1026) (by decide +kernel) rfl, m_in (i := 7) (by decide +kernel) rfl, by decide +kernel, ⟨by decide +kernel, by decide +kernel, by decide +kernel⟩, by decide +kernel⟩
def YS_dear : mY := (⟨"SortedOffice", "dear", "(II)I"⟩, prog_1_method_21_code, 5, (some .int))
theorem okS_dear : m_ok YS_dear 2 := ⟨m_in (i := 1031) (by decide +kernel) rfl, m_in (i := 1) (by decide +kernel) rfl, by decide +kernel, ⟨by decide +kernel, by decide +kernel, by decide +kernel⟩, by decide +kernel⟩
def YS_spoilt : mY := (⟨"SortedOffice", "spoilt", "(IIZ)I"⟩, prog_1_method_22_code, 6, (some .int))
theorem okS_spoilt : m_ok YS_spoilt 3 := ⟨m_in (i := 1035) (by decide +kernel) rfl, m_in (i := 1) (by decide +kernel) rfl, by decide +kernel, ⟨by decide +kernel, by decide +kernel, by decide +kernel⟩, by decide +kernel⟩
def YOffice_lowestUntil : mY := (⟨"SortedOffice$Office", "lowestUntil", "(II)I"⟩, prog_6_method_14_code, 7, (some .int))
theorem okOffice_lowestUntil : m_ok YOffice_lowestUntil 2 := ⟨m_in (i := 1040) (by decide +kernel) rfl, m_in (i := 3) (by decide +kernel) rfl, by decide +kernel, ⟨by decide +kernel, by decide +kernel, by decide +kernel⟩, by decide +kernel⟩
def YS_calm : mY := (⟨"SortedOffice", "calm", "(IIIZ)I"⟩, prog_1_method_23_code, 7, (some .int))
theorem okS_calm : m_ok YS_calm 4 := ⟨m_in (i := 1046) (by decide +kernel) rfl, m_in (i := 1) (by decide +kernel) rfl, by decide +kernel, ⟨by decide +kernel, by decide +kernel, by decide +kernel⟩, by decide +kernel⟩
def YOffice_calmedBy : mY := (⟨"SortedOffice$Office", "calmedBy", "(II)I"⟩, prog_6_method_15_code, 7, (some .int))
theorem okOffice_calmedBy : m_ok YOffice_calmedBy 2 := ⟨m_in (i := 1050) (by decide +kernel) rfl, m_in (i := 3) (by decide +kernel) rfl, by decide +kernel, ⟨by decide +kernel, by decide +kernel, by decide +kernel⟩, by decide +kernel⟩
def YS_hoped : mY := (⟨"SortedOffice", "hoped", "(IIZ)J"⟩, prog_1_method_24_code, 5, (some .long))
theorem okS_hoped : m_ok YS_hoped 3 := ⟨m_in (i := 1058) (by decide +kernel) rfl, m_in (i := 1) (by decide +kernel) rfl, by decide +kernel, ⟨by decide +kernel, by decide +kernel, by decide +kernel⟩, by decide +kernel⟩
def YChances_findHoped : mY := (⟨"SortedOffice$Chances", "findHoped", "(LSortedOffice$Office;I)V"⟩, prog_3_method_7_code, 4, none)
theorem okChances_findHoped : m_ok YChances_findHoped 2 := ⟨m_in (i := 1062) (by decide +kernel) rfl, m_in (i := 12) (by decide +kernel) rfl, by decide +kernel, ⟨by decide +kernel, by decide +kernel, by decide +kernel⟩, by decide +kernel⟩
def YChances_moodsBehind : mY := (⟨"SortedOffice$Chances", "moodsBehind", "(LSortedOffice$Office;I)I"⟩, prog_3_method_8_code, 6, (some .int))
theorem okChances_moodsBehind : m_ok YChances_moodsBehind 2 := ⟨m_in (i := 1066) (by decide +kernel) rfl, m_in (i := 12) (by decide +kernel) rfl, by decide +kernel, ⟨by decide +kernel, by decide +kernel, by decide +kernel⟩, by decide +kernel⟩
def YS_strongest : mY := (⟨"SortedOffice", "strongest", "(IZ)I"⟩, prog_1_method_25_code, 4, (some .int))
theorem okS_strongest : m_ok YS_strongest 2 := ⟨m_in (i := 1071) (by decide +kernel) rfl, m_in (i := 1) (by decide +kernel) rfl, by decide +kernel, ⟨by decide +kernel, by decide +kernel, by decide +kernel⟩, by decide +kernel⟩
def YOrders_findStrongest : mY := (⟨"SortedOffice$Orders", "findStrongest", "(LSortedOffice$Office;)V"⟩, prog_7_method_8_code, 5, none)
theorem okOrders_findStrongest : m_ok YOrders_findStrongest 1 := ⟨m_in (i := 1075) (by decide +kernel) rfl, m_in (i := 8) (by decide +kernel) rfl, by decide +kernel, ⟨by decide +kernel, by decide +kernel, by decide +kernel⟩, by decide +kernel⟩
def YOrders_together : mY := (⟨"SortedOffice$Orders", "together", "(LSortedOffice$Office;)I"⟩, prog_7_method_7_code, 4, (some .int))
theorem okOrders_together : m_ok YOrders_together 1 := ⟨m_in (i := 1079) (by decide +kernel) rfl, m_in (i := 8) (by decide +kernel) rfl, by decide +kernel, ⟨by decide +kernel, by decide +kernel, by decide +kernel⟩, by decide +kernel⟩
def YMath_abs2 : mY := (⟨"java/lang/Math", "abs", "(I)I"⟩, prog_16_method_59_code, 1, (some .int))
def YS_swapped : mY := (⟨"SortedOffice", "swapped", "(IZ)I"⟩, prog_1_method_26_code, 4, (some .int))
theorem okS_swapped : m_ok YS_swapped 2 := ⟨m_in (i := 1088) (by decide +kernel) rfl, m_in (i := 1) (by decide +kernel) rfl, by decide +kernel, ⟨by decide +kernel, by decide +kernel, by decide +kernel⟩, by decide +kernel⟩
def YOrders_findSwapped : mY := (⟨"SortedOffice$Orders", "findSwapped", "(LSortedOffice$Office;)V"⟩, prog_7_method_9_code, 4, none)
theorem okOrders_findSwapped : m_ok YOrders_findSwapped 1 := ⟨m_in (i := 1092) (by decide +kernel) rfl, m_in (i := 8) (by decide +kernel) rfl, by decide +kernel, ⟨by decide +kernel, by decide +kernel, by decide +kernel⟩, by decide +kernel⟩
def YOrders_trySwap : mY := (⟨"SortedOffice$Orders", "trySwap", "(LSortedOffice$Office;II)V"⟩, prog_7_method_10_code, 5, none)
theorem okOrders_trySwap : m_ok YOrders_trySwap 3 := ⟨m_in (i := 1096) (by decide +kernel) rfl, m_in (i := 8) (by decide +kernel) rfl, by decide +kernel, ⟨by decide +kernel, by decide +kernel, by decide +kernel⟩, by decide +kernel⟩
def YS_strike : mY := (⟨"SortedOffice", "strike", "(IIZ)J"⟩, prog_1_method_27_code, 5, (some .long))
theorem okS_strike : m_ok YS_strike 3 := ⟨m_in (i := 1100) (by decide +kernel) rfl, m_in (i := 1) (by decide +kernel) rfl, by decide +kernel, ⟨by decide +kernel, by decide +kernel, by decide +kernel⟩, by decide +kernel⟩
def YChances_findStrike : mY := (⟨"SortedOffice$Chances", "findStrike", "(LSortedOffice$Office;I)V"⟩, prog_3_method_9_code, 3, none)
theorem okChances_findStrike : m_ok YChances_findStrike 2 := ⟨m_in (i := 1104) (by decide +kernel) rfl, m_in (i := 12) (by decide +kernel) rfl, by decide +kernel, ⟨by decide +kernel, by decide +kernel, by decide +kernel⟩, by decide +kernel⟩
def YChances_goOn : mY := (⟨"SortedOffice$Chances", "goOn", "(II)V"⟩, prog_3_method_10_code, 5, none)
theorem okChances_goOn : m_ok YChances_goOn 2 := ⟨m_in (i := 1108) (by decide +kernel) rfl, m_in (i := 12) (by decide +kernel) rfl, by decide +kernel, ⟨by decide +kernel, by decide +kernel, by decide +kernel⟩, by decide +kernel⟩
def YChances_noneIsLower : mY := (⟨"SortedOffice$Chances", "noneIsLower", "()Z"⟩, prog_3_method_12_code, 2, (some .boolean))
theorem okChances_noneIsLower : m_ok YChances_noneIsLower 0 := ⟨m_in (i := 1112) (by decide +kernel) rfl, m_in (i := 12) (by decide +kernel) rfl, by decide +kernel, ⟨by decide +kernel, by decide +kernel, by decide +kernel⟩, by decide +kernel⟩
def YChances_bring : mY := (⟨"SortedOffice$Chances", "bring", "(III)V"⟩, prog_3_method_11_code, 6, none)
theorem okChances_bring : m_ok YChances_bring 3 := ⟨m_in (i := 1116) (by decide +kernel) rfl, m_in (i := 12) (by decide +kernel) rfl, by decide +kernel, ⟨by decide +kernel, by decide +kernel, by decide +kernel⟩, by decide +kernel⟩
def YS_ruled : mY := (⟨"SortedOffice", "ruled", "(II)I"⟩, prog_1_method_28_code, 4, (some .int))
theorem okS_ruled : m_ok YS_ruled 2 := ⟨m_in (i := 1120) (by decide +kernel) rfl, m_in (i := 1) (by decide +kernel) rfl, by decide +kernel, ⟨by decide +kernel, by decide +kernel, by decide +kernel⟩, by decide +kernel⟩
def YOffice_ruledCouples : mY := (⟨"SortedOffice$Office", "ruledCouples", "()I"⟩, prog_6_method_16_code, 4, (some .int))
theorem okOffice_ruledCouples : m_ok YOffice_ruledCouples 0 := ⟨m_in (i := 1124) (by decide +kernel) rfl, m_in (i := 3) (by decide +kernel) rfl, by decide +kernel, ⟨by decide +kernel, by decide +kernel, by decide +kernel⟩, by decide +kernel⟩
def YRacks_longestRow : mY := (⟨"SortedOffice$Racks", "longestRow", "(LSortedOffice$Office;)I"⟩, prog_8_method_8_code, 4, (some .int))
theorem okRacks_longestRow : m_ok YRacks_longestRow 1 := ⟨m_in (i := 1128) (by decide +kernel) rfl, m_in (i := 9) (by decide +kernel) rfl, by decide +kernel, ⟨by decide +kernel, by decide +kernel, by decide +kernel⟩, by decide +kernel⟩
def YRacks_rowFrom : mY := (⟨"SortedOffice$Racks", "rowFrom", "(LSortedOffice$Office;I)I"⟩, prog_8_method_9_code, 5, (some .int))
theorem okRacks_rowFrom : m_ok YRacks_rowFrom 2 := ⟨m_in (i := 1131) (by decide +kernel) rfl, m_in (i := 9) (by decide +kernel) rfl, by decide +kernel, ⟨by decide +kernel, by decide +kernel, by decide +kernel⟩, by decide +kernel⟩
def YRacks_loosened : mY := (⟨"SortedOffice$Racks", "loosened", "(LSortedOffice$Office;)I"⟩, prog_8_method_10_code, 4, (some .int))
theorem okRacks_loosened : m_ok YRacks_loosened 1 := ⟨m_in (i := 1136) (by decide +kernel) rfl, m_in (i := 9) (by decide +kernel) rfl, by decide +kernel, ⟨by decide +kernel, by decide +kernel, by decide +kernel⟩, by decide +kernel⟩
def YRacks_leastOfRing : mY := (⟨"SortedOffice$Racks", "leastOfRing", "(LSortedOffice$Office;I)I"⟩, prog_8_method_11_code, 5, (some .int))
theorem okRacks_leastOfRing : m_ok YRacks_leastOfRing 2 := ⟨m_in (i := 1140) (by decide +kernel) rfl, m_in (i := 9) (by decide +kernel) rfl, by decide +kernel, ⟨by decide +kernel, by decide +kernel, by decide +kernel⟩, by decide +kernel⟩
def YOrders_touched : mY := (⟨"SortedOffice$Orders", "touched", "(LSortedOffice$Office;)I"⟩, prog_7_method_11_code, 4, (some .int))
theorem okOrders_touched : m_ok YOrders_touched 1 := ⟨m_in (i := 1145) (by decide +kernel) rfl, m_in (i := 8) (by decide +kernel) rfl, by decide +kernel, ⟨by decide +kernel, by decide +kernel, by decide +kernel⟩, by decide +kernel⟩
def YOrders_ranked : mY := (⟨"SortedOffice$Orders", "ranked", "(LSortedOffice$Office;I)I"⟩, prog_7_method_12_code, 4, (some .int))
theorem okOrders_ranked : m_ok YOrders_ranked 2 := ⟨m_in (i := 1149) (by decide +kernel) rfl, m_in (i := 8) (by decide +kernel) rfl, by decide +kernel, ⟨by decide +kernel, by decide +kernel, by decide +kernel⟩, by decide +kernel⟩
def YOrders_rankOf : mY := (⟨"SortedOffice$Orders", "rankOf", "(LSortedOffice$Office;I)I"⟩, prog_7_method_13_code, 5, (some .int))
theorem okOrders_rankOf : m_ok YOrders_rankOf 2 := ⟨m_in (i := 1153) (by decide +kernel) rfl, m_in (i := 8) (by decide +kernel) rfl, by decide +kernel, ⟨by decide +kernel, by decide +kernel, by decide +kernel⟩, by decide +kernel⟩
def YS_after : mY := (⟨"SortedOffice", "after", "(III)I"⟩, prog_1_method_29_code, 6, (some .int))
theorem okS_after : m_ok YS_after 3 := ⟨m_in (i := 1157) (by decide +kernel) rfl, m_in (i := 1) (by decide +kernel) rfl, by decide +kernel, ⟨by decide +kernel, by decide +kernel, by decide +kernel⟩, by decide +kernel⟩
def YS_then : mY := (⟨"SortedOffice", "then", "(IIII)I"⟩, prog_1_method_30_code, 7, (some .int))
theorem okS_then : m_ok YS_then 4 := ⟨m_in (i := 1161) (by decide +kernel) rfl, m_in (i := 1) (by decide +kernel) rfl, by decide +kernel, ⟨by decide +kernel, by decide +kernel, by decide +kernel⟩, by decide +kernel⟩
def YS_count : mY := (⟨"SortedOffice", "count", "(I)I"⟩, prog_1_method_31_code, 2, (some .int))
theorem okS_count : m_ok YS_count 1 := ⟨m_in (i := 1166) (by decide +kernel) rfl, m_in (i := 1) (by decide +kernel) rfl, by decide +kernel, ⟨by decide +kernel, by decide +kernel, by decide +kernel⟩, by decide +kernel⟩
def YS_image : mY := (⟨"SortedOffice", "image", "(I)Z"⟩, prog_1_method_32_code, 2, (some .boolean))
theorem okS_image : m_ok YS_image 1 := ⟨m_in (i := 1170) (by decide +kernel) rfl, m_in (i := 1) (by decide +kernel) rfl, by decide +kernel, ⟨by decide +kernel, by decide +kernel, by decide +kernel⟩, by decide +kernel⟩
def YTold_copyFrom : mY := (⟨"SortedOffice$Told", "copyFrom", "(LSortedOffice$Told;)V"⟩, prog_11_method_2_code, 3, none)
theorem okTold_copyFrom : m_ok YTold_copyFrom 1 := ⟨m_in (i := 1174) (by decide +kernel) rfl, m_in (i := 2) (by decide +kernel) rfl, by decide +kernel, ⟨by decide +kernel, by decide +kernel, by decide +kernel⟩, by decide +kernel⟩
def YS_again : mY := (⟨"SortedOffice", "again", "(I)Z"⟩, prog_1_method_33_code, 2, (some .boolean))
theorem okS_again : m_ok YS_again 1 := ⟨m_in (i := 1179) (by decide +kernel) rfl, m_in (i := 1) (by decide +kernel) rfl, by decide +kernel, ⟨by decide +kernel, by decide +kernel, by decide +kernel⟩, by decide +kernel⟩
def YM_init : mY := (⟨"SortedOfficeModel", "<init>", "()V"⟩, prog_14_method_1_code, 1, none)
theorem okM_init : m_ok YM_init 0 := ⟨m_in (i := 1184) (by decide +kernel) rfl, m_in (i := 13) (by decide +kernel) rfl, by decide +kernel, ⟨by decide +kernel, by decide +kernel, by decide +kernel⟩, by decide +kernel⟩
def YM_feed : mY := (⟨"SortedOfficeModel", "feed", "(IIIII)I"⟩, prog_14_method_11_code, 6, (some .int))
theorem okM_feed : m_ok YM_feed 5 := ⟨m_in (i := 1356) (by decide +kernel) rfl, m_in (i := 13) (by decide +kernel) rfl, by decide +kernel, ⟨by decide +kernel, by decide +kernel, by decide +kernel⟩, by decide +kernel⟩
def YM_four : mY := (⟨"SortedOfficeModel", "four", "(I)V"⟩, prog_14_method_12_code, 3, none)
theorem okM_four : m_ok YM_four 1 := ⟨m_in (i := 1360) (by decide +kernel) rfl, m_in (i := 13) (by decide +kernel) rfl, by decide +kernel, ⟨by decide +kernel, by decide +kernel, by decide +kernel⟩, by decide +kernel⟩
def YM_end : mY := (⟨"SortedOfficeModel", "end", "(I)I"⟩, prog_14_method_13_code, 2, (some .int))
theorem okM_end : m_ok YM_end 1 := ⟨m_in (i := 1364) (by decide +kernel) rfl, m_in (i := 13) (by decide +kernel) rfl, by decide +kernel, ⟨by decide +kernel, by decide +kernel, by decide +kernel⟩, by decide +kernel⟩
def YM_in : mY := (⟨"SortedOfficeModel", "in", "(III)Z"⟩, prog_14_method_3_code, 3, (some .boolean))
theorem okM_in : m_ok YM_in 3 := ⟨m_in (i := 1367) (by decide +kernel) rfl, m_in (i := 13) (by decide +kernel) rfl, by decide +kernel, ⟨by decide +kernel, by decide +kernel, by decide +kernel⟩, by decide +kernel⟩
def YM_text : mY := (⟨"SortedOfficeModel", "text", "(II)I"⟩, prog_14_method_35_code, 4, (some .int))
theorem okM_text : m_ok YM_text 2 := ⟨m_in (i := 1371) (by decide +kernel) rfl, m_in (i := 13) (by decide +kernel) rfl, by decide +kernel, ⟨by decide +kernel, by decide +kernel, by decide +kernel⟩, by decide +kernel⟩
def YM_is : mY := (⟨"SortedOfficeModel", "is", "(II)Z"⟩, prog_14_method_10_code, 3, (some .boolean))
theorem okM_is : m_ok YM_is 2 := ⟨m_in (i := 1375) (by decide +kernel) rfl, m_in (i := 13) (by decide +kernel) rfl, by decide +kernel, ⟨by decide +kernel, by decide +kernel, by decide +kernel⟩, by decide +kernel⟩
def YM_readText : mY := (⟨"SortedOfficeModel", "readText", "(I)Z"⟩, prog_14_method_33_code, 3, (some .boolean))
theorem okM_readText : m_ok YM_readText 1 := ⟨m_in (i := 1379) (by decide +kernel) rfl, m_in (i := 13) (by decide +kernel) rfl, by decide +kernel, ⟨by decide +kernel, by decide +kernel, by decide +kernel⟩, by decide +kernel⟩
def YM_token : mY := (⟨"SortedOfficeModel", "token", "()V"⟩, prog_14_method_15_code, 3, none)
theorem okM_token : m_ok YM_token 0 := ⟨m_in (i := 1383) (by decide +kernel) rfl, m_in (i := 13) (by decide +kernel) rfl, by decide +kernel, ⟨by decide +kernel, by decide +kernel, by decide +kernel⟩, by decide +kernel⟩
def YM_see : mY := (⟨"SortedOfficeModel", "see", "()I"⟩, prog_14_method_14_code, 1, (some .int))
theorem okM_see : m_ok YM_see 0 := ⟨m_in (i := 1387) (by decide +kernel) rfl, m_in (i := 13) (by decide +kernel) rfl, by decide +kernel, ⟨by decide +kernel, by decide +kernel, by decide +kernel⟩, by decide +kernel⟩
def YM_lines : mY := (⟨"SortedOfficeModel", "lines", "(I)Z"⟩, prog_14_method_32_code, 6, (some .boolean))
theorem okM_lines : m_ok YM_lines 1 := ⟨m_in (i := 1391) (by decide +kernel) rfl, m_in (i := 13) (by decide +kernel) rfl, by decide +kernel, ⟨by decide +kernel, by decide +kernel, by decide +kernel⟩, by decide +kernel⟩
def YM_officeLine : mY := (⟨"SortedOfficeModel", "officeLine", "(JI)Z"⟩, prog_14_method_28_code, 4, (some .boolean))
theorem okM_officeLine : m_ok YM_officeLine 2 := ⟨m_in (i := 1395) (by decide +kernel) rfl, m_in (i := 13) (by decide +kernel) rfl, by decide +kernel, ⟨by decide +kernel, by decide +kernel, by decide +kernel⟩, by decide +kernel⟩
def YM_fails : mY := (⟨"SortedOfficeModel", "fails", "()Z"⟩, prog_14_method_16_code, 1, (some .boolean))
theorem okM_fails : m_ok YM_fails 0 := ⟨m_in (i := 1404) (by decide +kernel) rfl, m_in (i := 13) (by decide +kernel) rfl, by decide +kernel, ⟨by decide +kernel, by decide +kernel, by decide +kernel⟩, by decide +kernel⟩
def YM_full : mY := (⟨"SortedOfficeModel", "full", "(III)V"⟩, prog_14_method_23_code, 4, none)
theorem okM_full : m_ok YM_full 3 := ⟨m_in (i := 1408) (by decide +kernel) rfl, m_in (i := 13) (by decide +kernel) rfl, by decide +kernel, ⟨by decide +kernel, by decide +kernel, by decide +kernel⟩, by decide +kernel⟩
def YM_later : mY := (⟨"SortedOfficeModel", "later", "(II)V"⟩, prog_14_method_17_code, 3, none)
theorem okM_later : m_ok YM_later 2 := ⟨m_in (i := 1412) (by decide +kernel) rfl, m_in (i := 13) (by decide +kernel) rfl, by decide +kernel, ⟨by decide +kernel, by decide +kernel, by decide +kernel⟩, by decide +kernel⟩
def YM_take : mY := (⟨"SortedOfficeModel", "take", "(III)Z"⟩, prog_14_method_19_code, 4, (some .boolean))
theorem okM_take : m_ok YM_take 3 := ⟨m_in (i := 1416) (by decide +kernel) rfl, m_in (i := 13) (by decide +kernel) rfl, by decide +kernel, ⟨by decide +kernel, by decide +kernel, by decide +kernel⟩, by decide +kernel⟩
def YM_takeBut : mY := (⟨"SortedOfficeModel", "takeBut", "(IIII)Z"⟩, prog_14_method_18_code, 5, (some .boolean))
theorem okM_takeBut : m_ok YM_takeBut 4 := ⟨m_in (i := 1420) (by decide +kernel) rfl, m_in (i := 13) (by decide +kernel) rfl, by decide +kernel, ⟨by decide +kernel, by decide +kernel, by decide +kernel⟩, by decide +kernel⟩
def YM_moodLine : mY := (⟨"SortedOfficeModel", "moodLine", "()Z"⟩, prog_14_method_27_code, 1, (some .boolean))
theorem okM_moodLine : m_ok YM_moodLine 0 := ⟨m_in (i := 1424) (by decide +kernel) rfl, m_in (i := 13) (by decide +kernel) rfl, by decide +kernel, ⟨by decide +kernel, by decide +kernel, by decide +kernel⟩, by decide +kernel⟩
def YM_takeHouse : mY := (⟨"SortedOfficeModel", "takeHouse", "(I)Z"⟩, prog_14_method_20_code, 2, (some .boolean))
theorem okM_takeHouse : m_ok YM_takeHouse 1 := ⟨m_in (i := 1428) (by decide +kernel) rfl, m_in (i := 13) (by decide +kernel) rfl, by decide +kernel, ⟨by decide +kernel, by decide +kernel, by decide +kernel⟩, by decide +kernel⟩
def YM_greater : mY := (⟨"SortedOfficeModel", "greater", "(II)I"⟩, prog_14_method_5_code, 2, (some .int))
theorem okM_greater : m_ok YM_greater 2 := ⟨m_in (i := 1431) (by decide +kernel) rfl, m_in (i := 13) (by decide +kernel) rfl, by decide +kernel, ⟨by decide +kernel, by decide +kernel, by decide +kernel⟩, by decide +kernel⟩
def YM_letterLine : mY := (⟨"SortedOfficeModel", "letterLine", "()Z"⟩, prog_14_method_24_code, 3, (some .boolean))
theorem okM_letterLine : m_ok YM_letterLine 0 := ⟨m_in (i := 1435) (by decide +kernel) rfl, m_in (i := 13) (by decide +kernel) rfl, by decide +kernel, ⟨by decide +kernel, by decide +kernel, by decide +kernel⟩, by decide +kernel⟩
def YM_takeKind : mY := (⟨"SortedOfficeModel", "takeKind", "(I)Z"⟩, prog_14_method_22_code, 3, (some .boolean))
theorem okM_takeKind : m_ok YM_takeKind 1 := ⟨m_in (i := 1439) (by decide +kernel) rfl, m_in (i := 13) (by decide +kernel) rfl, by decide +kernel, ⟨by decide +kernel, by decide +kernel, by decide +kernel⟩, by decide +kernel⟩
def YM_lawLine : mY := (⟨"SortedOfficeModel", "lawLine", "(I)Z"⟩, prog_14_method_25_code, 4, (some .boolean))
theorem okM_lawLine : m_ok YM_lawLine 1 := ⟨m_in (i := 1447) (by decide +kernel) rfl, m_in (i := 13) (by decide +kernel) rfl, by decide +kernel, ⟨by decide +kernel, by decide +kernel, by decide +kernel⟩, by decide +kernel⟩
def YM_mindsLine : mY := (⟨"SortedOfficeModel", "mindsLine", "()Z"⟩, prog_14_method_26_code, 1, (some .boolean))
theorem okM_mindsLine : m_ok YM_mindsLine 0 := ⟨m_in (i := 1451) (by decide +kernel) rfl, m_in (i := 13) (by decide +kernel) rfl, by decide +kernel, ⟨by decide +kernel, by decide +kernel, by decide +kernel⟩, by decide +kernel⟩
def YM_takeLetter : mY := (⟨"SortedOfficeModel", "takeLetter", "(II)Z"⟩, prog_14_method_21_code, 3, (some .boolean))
theorem okM_takeLetter : m_ok YM_takeLetter 2 := ⟨m_in (i := 1455) (by decide +kernel) rfl, m_in (i := 13) (by decide +kernel) rfl, by decide +kernel, ⟨by decide +kernel, by decide +kernel, by decide +kernel⟩, by decide +kernel⟩
def YM_weekLine : mY := (⟨"SortedOfficeModel", "weekLine", "(JI)Z"⟩, prog_14_method_30_code, 5, (some .boolean))
theorem okM_weekLine : m_ok YM_weekLine 2 := ⟨m_in (i := 1459) (by decide +kernel) rfl, m_in (i := 13) (by decide +kernel) rfl, by decide +kernel, ⟨by decide +kernel, by decide +kernel, by decide +kernel⟩, by decide +kernel⟩
def YM_keepRow : mY := (⟨"SortedOfficeModel", "keepRow", "(II)V"⟩, prog_14_method_29_code, 5, none)
theorem okM_keepRow : m_ok YM_keepRow 2 := ⟨m_in (i := 1467) (by decide +kernel) rfl, m_in (i := 13) (by decide +kernel) rfl, by decide +kernel, ⟨by decide +kernel, by decide +kernel, by decide +kernel⟩, by decide +kernel⟩
def YM_logLine : mY := (⟨"SortedOfficeModel", "logLine", "(JI)Z"⟩, prog_14_method_31_code, 4, (some .boolean))
theorem okM_logLine : m_ok YM_logLine 2 := ⟨m_in (i := 1471) (by decide +kernel) rfl, m_in (i := 13) (by decide +kernel) rfl, by decide +kernel, ⟨by decide +kernel, by decide +kernel, by decide +kernel⟩, by decide +kernel⟩
def YM_store : mY := (⟨"SortedOfficeModel", "store", "([III)V"⟩, prog_14_method_34_code, 5, none)
theorem okM_store : m_ok YM_store 3 := ⟨m_in (i := 1475) (by decide +kernel) rfl, m_in (i := 13) (by decide +kernel) rfl, by decide +kernel, ⟨by decide +kernel, by decide +kernel, by decide +kernel⟩, by decide +kernel⟩
def YM_fault : mY := (⟨"SortedOfficeModel", "fault", "(I)I"⟩, prog_14_method_36_code, 2, (some .int))
theorem okM_fault : m_ok YM_fault 1 := ⟨m_in (i := 1479) (by decide +kernel) rfl, m_in (i := 13) (by decide +kernel) rfl, by decide +kernel, ⟨by decide +kernel, by decide +kernel, by decide +kernel⟩, by decide +kernel⟩
def YM_office : mY := (⟨"SortedOfficeModel", "office", "(II)I"⟩, prog_14_method_45_code, 4, (some .int))
theorem okM_office : m_ok YM_office 2 := ⟨m_in (i := 1483) (by decide +kernel) rfl, m_in (i := 13) (by decide +kernel) rfl, by decide +kernel, ⟨by decide +kernel, by decide +kernel, by decide +kernel⟩, by decide +kernel⟩
def YM_hand : mY := (⟨"SortedOfficeModel", "hand", "(I)Z"⟩, prog_14_method_38_code, 3, (some .boolean))
theorem okM_hand : m_ok YM_hand 1 := ⟨m_in (i := 1487) (by decide +kernel) rfl, m_in (i := 13) (by decide +kernel) rfl, by decide +kernel, ⟨by decide +kernel, by decide +kernel, by decide +kernel⟩, by decide +kernel⟩
def YM_of : mY := (⟨"SortedOfficeModel", "of", "(I)I"⟩, prog_14_method_37_code, 2, (some .int))
theorem okM_of : m_ok YM_of 1 := ⟨m_in (i := 1491) (by decide +kernel) rfl, m_in (i := 13) (by decide +kernel) rfl, by decide +kernel, ⟨by decide +kernel, by decide +kernel, by decide +kernel⟩, by decide +kernel⟩
def YM_begin : mY := (⟨"SortedOfficeModel", "begin", "()V"⟩, prog_14_method_39_code, 2, none)
theorem okM_begin : m_ok YM_begin 0 := ⟨m_in (i := 1495) (by decide +kernel) rfl, m_in (i := 13) (by decide +kernel) rfl, by decide +kernel, ⟨by decide +kernel, by decide +kernel, by decide +kernel⟩, by decide +kernel⟩
def YM_doing : mY := (⟨"SortedOfficeModel", "doing", "(III)I"⟩, prog_14_method_46_code, 4, (some .int))
theorem okM_doing : m_ok YM_doing 3 := ⟨m_in (i := 1499) (by decide +kernel) rfl, m_in (i := 13) (by decide +kernel) rfl, by decide +kernel, ⟨by decide +kernel, by decide +kernel, by decide +kernel⟩, by decide +kernel⟩
def YM_isLetter : mY := (⟨"SortedOfficeModel", "isLetter", "(I)Z"⟩, prog_14_method_41_code, 2, (some .boolean))
theorem okM_isLetter : m_ok YM_isLetter 1 := ⟨m_in (i := 1503) (by decide +kernel) rfl, m_in (i := 13) (by decide +kernel) rfl, by decide +kernel, ⟨by decide +kernel, by decide +kernel, by decide +kernel⟩, by decide +kernel⟩
def YM_doesBy : mY := (⟨"SortedOfficeModel", "doesBy", "(II)I"⟩, prog_14_method_44_code, 5, (some .int))
theorem okM_doesBy : m_ok YM_doesBy 2 := ⟨m_in (i := 1507) (by decide +kernel) rfl, m_in (i := 13) (by decide +kernel) rfl, by decide +kernel, ⟨by decide +kernel, by decide +kernel, by decide +kernel⟩, by decide +kernel⟩
def YM_kind : mY := (⟨"SortedOfficeModel", "kind", "(I)I"⟩, prog_14_method_42_code, 2, (some .int))
theorem okM_kind : m_ok YM_kind 1 := ⟨m_in (i := 1511) (by decide +kernel) rfl, m_in (i := 13) (by decide +kernel) rfl, by decide +kernel, ⟨by decide +kernel, by decide +kernel, by decide +kernel⟩, by decide +kernel⟩
def YM_base : mY := (⟨"SortedOfficeModel", "base", "(I)I"⟩, prog_14_method_43_code, 4, (some .int))
theorem okM_base : m_ok YM_base 1 := ⟨m_in (i := 1515) (by decide +kernel) rfl, m_in (i := 13) (by decide +kernel) rfl, by decide +kernel, ⟨by decide +kernel, by decide +kernel, by decide +kernel⟩, by decide +kernel⟩
def YM_deed : mY := (⟨"SortedOfficeModel", "deed", "(III)I"⟩, prog_14_method_50_code, 4, (some .int))
theorem okM_deed : m_ok YM_deed 3 := ⟨m_in (i := 1519) (by decide +kernel) rfl, m_in (i := 13) (by decide +kernel) rfl, by decide +kernel, ⟨by decide +kernel, by decide +kernel, by decide +kernel⟩, by decide +kernel⟩
def YM_hasWeek : mY := (⟨"SortedOfficeModel", "hasWeek", "(I)Z"⟩, prog_14_method_49_code, 2, (some .boolean))
theorem okM_hasWeek : m_ok YM_hasWeek 1 := ⟨m_in (i := 1523) (by decide +kernel) rfl, m_in (i := 13) (by decide +kernel) rfl, by decide +kernel, ⟨by decide +kernel, by decide +kernel, by decide +kernel⟩, by decide +kernel⟩
def YM_deeds : mY := (⟨"SortedOfficeModel", "deeds", "()I"⟩, prog_14_method_47_code, 1, (some .int))
theorem okM_deeds : m_ok YM_deeds 0 := ⟨m_in (i := 1527) (by decide +kernel) rfl, m_in (i := 13) (by decide +kernel) rfl, by decide +kernel, ⟨by decide +kernel, by decide +kernel, by decide +kernel⟩, by decide +kernel⟩
def YM_deedOf : mY := (⟨"SortedOfficeModel", "deedOf", "(II)I"⟩, prog_14_method_48_code, 3, (some .int))
theorem okM_deedOf : m_ok YM_deedOf 2 := ⟨m_in (i := 1531) (by decide +kernel) rfl, m_in (i := 13) (by decide +kernel) rfl, by decide +kernel, ⟨by decide +kernel, by decide +kernel, by decide +kernel⟩, by decide +kernel⟩
def YM_till : mY := (⟨"SortedOfficeModel", "till", "(II)I"⟩, prog_14_method_59_code, 3, (some .int))
theorem okM_till : m_ok YM_till 2 := ⟨m_in (i := 1535) (by decide +kernel) rfl, m_in (i := 13) (by decide +kernel) rfl, by decide +kernel, ⟨by decide +kernel, by decide +kernel, by decide +kernel⟩, by decide +kernel⟩
def YM_layAll : mY := (⟨"SortedOfficeModel", "layAll", "(II)Z"⟩, prog_14_method_58_code, 3, (some .boolean))
theorem okM_layAll : m_ok YM_layAll 2 := ⟨m_in (i := 1539) (by decide +kernel) rfl, m_in (i := 13) (by decide +kernel) rfl, by decide +kernel, ⟨by decide +kernel, by decide +kernel, by decide +kernel⟩, by decide +kernel⟩
def YM_play : mY := (⟨"SortedOfficeModel", "play", "(I)I"⟩, prog_14_method_57_code, 3, (some .int))
theorem okM_play : m_ok YM_play 1 := ⟨m_in (i := 1543) (by decide +kernel) rfl, m_in (i := 13) (by decide +kernel) rfl, by decide +kernel, ⟨by decide +kernel, by decide +kernel, by decide +kernel⟩, by decide +kernel⟩
def YM_opens : mY := (⟨"SortedOfficeModel", "opens", "()V"⟩, prog_14_method_51_code, 1, none)
theorem okM_opens : m_ok YM_opens 0 := ⟨m_in (i := 1547) (by decide +kernel) rfl, m_in (i := 13) (by decide +kernel) rfl, by decide +kernel, ⟨by decide +kernel, by decide +kernel, by decide +kernel⟩, by decide +kernel⟩
def YM_doesDeed : mY := (⟨"SortedOfficeModel", "doesDeed", "(I)Z"⟩, prog_14_method_56_code, 2, (some .boolean))
theorem okM_doesDeed : m_ok YM_doesDeed 1 := ⟨m_in (i := 1551) (by decide +kernel) rfl, m_in (i := 13) (by decide +kernel) rfl, by decide +kernel, ⟨by decide +kernel, by decide +kernel, by decide +kernel⟩, by decide +kernel⟩
def YM_does : mY := (⟨"SortedOfficeModel", "does", "(III)Z"⟩, prog_14_method_55_code, 5, (some .boolean))
theorem okM_does : m_ok YM_does 3 := ⟨m_in (i := 1555) (by decide +kernel) rfl, m_in (i := 13) (by decide +kernel) rfl, by decide +kernel, ⟨by decide +kernel, by decide +kernel, by decide +kernel⟩, by decide +kernel⟩
def YM_isLeft : mY := (⟨"SortedOfficeModel", "isLeft", "(I)Z"⟩, prog_14_method_54_code, 2, (some .boolean))
theorem okM_isLeft : m_ok YM_isLeft 1 := ⟨m_in (i := 1559) (by decide +kernel) rfl, m_in (i := 13) (by decide +kernel) rfl, by decide +kernel, ⟨by decide +kernel, by decide +kernel, by decide +kernel⟩, by decide +kernel⟩
def YM_has : mY := (⟨"SortedOfficeModel", "has", "(II)Z"⟩, prog_14_method_4_code, 2, (some .boolean))
theorem okM_has : m_ok YM_has 2 := ⟨m_in (i := 1562) (by decide +kernel) rfl, m_in (i := 13) (by decide +kernel) rfl, by decide +kernel, ⟨by decide +kernel, by decide +kernel, by decide +kernel⟩, by decide +kernel⟩
def YM_isHouse : mY := (⟨"SortedOfficeModel", "isHouse", "(I)Z"⟩, prog_14_method_40_code, 2, (some .boolean))
theorem okM_isHouse : m_ok YM_isHouse 1 := ⟨m_in (i := 1566) (by decide +kernel) rfl, m_in (i := 13) (by decide +kernel) rfl, by decide +kernel, ⟨by decide +kernel, by decide +kernel, by decide +kernel⟩, by decide +kernel⟩
def YM_given : mY := (⟨"SortedOfficeModel", "given", "(II)V"⟩, prog_14_method_53_code, 4, none)
theorem okM_given : m_ok YM_given 2 := ⟨m_in (i := 1570) (by decide +kernel) rfl, m_in (i := 13) (by decide +kernel) rfl, by decide +kernel, ⟨by decide +kernel, by decide +kernel, by decide +kernel⟩, by decide +kernel⟩
def YM_comes : mY := (⟨"SortedOfficeModel", "comes", "(II)I"⟩, prog_14_method_52_code, 4, (some .int))
theorem okM_comes : m_ok YM_comes 2 := ⟨m_in (i := 1574) (by decide +kernel) rfl, m_in (i := 13) (by decide +kernel) rfl, by decide +kernel, ⟨by decide +kernel, by decide +kernel, by decide +kernel⟩, by decide +kernel⟩
def YM_state : mY := (⟨"SortedOfficeModel", "state", "(IIII)I"⟩, prog_14_method_62_code, 5, (some .int))
theorem okM_state : m_ok YM_state 4 := ⟨m_in (i := 1578) (by decide +kernel) rfl, m_in (i := 13) (by decide +kernel) rfl, by decide +kernel, ⟨by decide +kernel, by decide +kernel, by decide +kernel⟩, by decide +kernel⟩
def YM_ofState : mY := (⟨"SortedOfficeModel", "ofState", "(I)I"⟩, prog_14_method_61_code, 3, (some .int))
theorem okM_ofState : m_ok YM_ofState 1 := ⟨m_in (i := 1582) (by decide +kernel) rfl, m_in (i := 13) (by decide +kernel) rfl, by decide +kernel, ⟨by decide +kernel, by decide +kernel, by decide +kernel⟩, by decide +kernel⟩
def YM_allMoods : mY := (⟨"SortedOfficeModel", "allMoods", "()I"⟩, prog_14_method_60_code, 3, (some .int))
theorem okM_allMoods : m_ok YM_allMoods 0 := ⟨m_in (i := 1586) (by decide +kernel) rfl, m_in (i := 13) (by decide +kernel) rfl, by decide +kernel, ⟨by decide +kernel, by decide +kernel, by decide +kernel⟩, by decide +kernel⟩
def YM_order : mY := (⟨"SortedOfficeModel", "order", "(IIZI)I"⟩, prog_14_method_69_code, 7, (some .int))
theorem okM_order : m_ok YM_order 4 := ⟨m_in (i := 1590) (by decide +kernel) rfl, m_in (i := 13) (by decide +kernel) rfl, by decide +kernel, ⟨by decide +kernel, by decide +kernel, by decide +kernel⟩, by decide +kernel⟩
def YM_lettersOf : mY := (⟨"SortedOfficeModel", "lettersOf", "(I)I"⟩, prog_14_method_63_code, 4, (some .int))
theorem okM_lettersOf : m_ok YM_lettersOf 1 := ⟨m_in (i := 1594) (by decide +kernel) rfl, m_in (i := 13) (by decide +kernel) rfl, by decide +kernel, ⟨by decide +kernel, by decide +kernel, by decide +kernel⟩, by decide +kernel⟩
def YM_ones : mY := (⟨"SortedOfficeModel", "ones", "(I)I"⟩, prog_14_method_7_code, 3, (some .int))
theorem okM_ones : m_ok YM_ones 1 := ⟨m_in (i := 1597) (by decide +kernel) rfl, m_in (i := 13) (by decide +kernel) rfl, by decide +kernel, ⟨by decide +kernel, by decide +kernel, by decide +kernel⟩, by decide +kernel⟩
def YM_bestOf : mY := (⟨"SortedOfficeModel", "bestOf", "(IIZ)I"⟩, prog_14_method_66_code, 4, (some .int))
theorem okM_bestOf : m_ok YM_bestOf 3 := ⟨m_in (i := 1601) (by decide +kernel) rfl, m_in (i := 13) (by decide +kernel) rfl, by decide +kernel, ⟨by decide +kernel, by decide +kernel, by decide +kernel⟩, by decide +kernel⟩
def YM_findOrders : mY := (⟨"SortedOfficeModel", "findOrders", "(IZ)V"⟩, prog_14_method_65_code, 8, none)
theorem okM_findOrders : m_ok YM_findOrders 2 := ⟨m_in (i := 1605) (by decide +kernel) rfl, m_in (i := 13) (by decide +kernel) rfl, by decide +kernel, ⟨by decide +kernel, by decide +kernel, by decide +kernel⟩, by decide +kernel⟩
def YM_orderBy : mY := (⟨"SortedOfficeModel", "orderBy", "(III)I"⟩, prog_14_method_64_code, 4, (some .int))
theorem okM_orderBy : m_ok YM_orderBy 3 := ⟨m_in (i := 1611) (by decide +kernel) rfl, m_in (i := 13) (by decide +kernel) rfl, by decide +kernel, ⟨by decide +kernel, by decide +kernel, by decide +kernel⟩, by decide +kernel⟩
def YM_lesser : mY := (⟨"SortedOfficeModel", "lesser", "(II)I"⟩, prog_14_method_6_code, 2, (some .int))
theorem okM_lesser : m_ok YM_lesser 2 := ⟨m_in (i := 1614) (by decide +kernel) rfl, m_in (i := 13) (by decide +kernel) rfl, by decide +kernel, ⟨by decide +kernel, by decide +kernel, by decide +kernel⟩, by decide +kernel⟩
def YM_orderAt : mY := (⟨"SortedOfficeModel", "orderAt", "(II)I"⟩, prog_14_method_68_code, 8, (some .int))
theorem okM_orderAt : m_ok YM_orderAt 2 := ⟨m_in (i := 1618) (by decide +kernel) rfl, m_in (i := 13) (by decide +kernel) rfl, by decide +kernel, ⟨by decide +kernel, by decide +kernel, by decide +kernel⟩, by decide +kernel⟩
def YM_mean : mY := (⟨"SortedOfficeModel", "mean", "(IIZ)J"⟩, prog_14_method_72_code, 11, (some .long))
theorem okM_mean : m_ok YM_mean 3 := ⟨m_in (i := 1622) (by decide +kernel) rfl, m_in (i := 13) (by decide +kernel) rfl, by decide +kernel, ⟨by decide +kernel, by decide +kernel, by decide +kernel⟩, by decide +kernel⟩
def YM_part : mY := (⟨"SortedOfficeModel", "part", "(JJZ)J"⟩, prog_14_method_71_code, 5, (some .long))
theorem okM_part : m_ok YM_part 3 := ⟨m_in (i := 1626) (by decide +kernel) rfl, m_in (i := 13) (by decide +kernel) rfl, by decide +kernel, ⟨by decide +kernel, by decide +kernel, by decide +kernel⟩, by decide +kernel⟩
def YM_common : mY := (⟨"SortedOfficeModel", "common", "(JJ)J"⟩, prog_14_method_70_code, 10, (some .long))
theorem okM_common : m_ok YM_common 2 := ⟨m_in (i := 1629) (by decide +kernel) rfl, m_in (i := 13) (by decide +kernel) rfl, by decide +kernel, ⟨by decide +kernel, by decide +kernel, by decide +kernel⟩, by decide +kernel⟩
def YM_spared : mY := (⟨"SortedOfficeModel", "spared", "(IIIIZ)J"⟩, prog_14_method_75_code, 11, (some .long))
theorem okM_spared : m_ok YM_spared 5 := ⟨m_in (i := 1633) (by decide +kernel) rfl, m_in (i := 13) (by decide +kernel) rfl, by decide +kernel, ⟨by decide +kernel, by decide +kernel, by decide +kernel⟩, by decide +kernel⟩
def YM_behind : mY := (⟨"SortedOfficeModel", "behind", "(II)I"⟩, prog_14_method_73_code, 6, (some .int))
theorem okM_behind : m_ok YM_behind 2 := ⟨m_in (i := 1638) (by decide +kernel) rfl, m_in (i := 13) (by decide +kernel) rfl, by decide +kernel, ⟨by decide +kernel, by decide +kernel, by decide +kernel⟩, by decide +kernel⟩
def YM_power : mY := (⟨"SortedOfficeModel", "power", "(JI)J"⟩, prog_14_method_74_code, 6, (some .long))
theorem okM_power : m_ok YM_power 2 := ⟨m_in (i := 1642) (by decide +kernel) rfl, m_in (i := 13) (by decide +kernel) rfl, by decide +kernel, ⟨by decide +kernel, by decide +kernel, by decide +kernel⟩, by decide +kernel⟩
def YM_rack : mY := (⟨"SortedOfficeModel", "rack", "(III)I"⟩, prog_14_method_79_code, 4, (some .int))
theorem okM_rack : m_ok YM_rack 3 := ⟨m_in (i := 1646) (by decide +kernel) rfl, m_in (i := 13) (by decide +kernel) rfl, by decide +kernel, ⟨by decide +kernel, by decide +kernel, by decide +kernel⟩, by decide +kernel⟩
def YM_rounds : mY := (⟨"SortedOfficeModel", "rounds", "(II)I"⟩, prog_14_method_78_code, 5, (some .int))
theorem okM_rounds : m_ok YM_rounds 2 := ⟨m_in (i := 1650) (by decide +kernel) rfl, m_in (i := 13) (by decide +kernel) rfl, by decide +kernel, ⟨by decide +kernel, by decide +kernel, by decide +kernel⟩, by decide +kernel⟩
def YM_round : mY := (⟨"SortedOfficeModel", "round", "(II)I"⟩, prog_14_method_77_code, 7, (some .int))
theorem okM_round : m_ok YM_round 2 := ⟨m_in (i := 1654) (by decide +kernel) rfl, m_in (i := 13) (by decide +kernel) rfl, by decide +kernel, ⟨by decide +kernel, by decide +kernel, by decide +kernel⟩, by decide +kernel⟩
def YM_rackOf : mY := (⟨"SortedOfficeModel", "rackOf", "(II)I"⟩, prog_14_method_76_code, 2, (some .int))
theorem okM_rackOf : m_ok YM_rackOf 2 := ⟨m_in (i := 1657) (by decide +kernel) rfl, m_in (i := 13) (by decide +kernel) rfl, by decide +kernel, ⟨by decide +kernel, by decide +kernel, by decide +kernel⟩, by decide +kernel⟩
def YM_settled : mY := (⟨"SortedOfficeModel", "settled", "(II)I"⟩, prog_14_method_82_code, 4, (some .int))
theorem okM_settled : m_ok YM_settled 2 := ⟨m_in (i := 1661) (by decide +kernel) rfl, m_in (i := 13) (by decide +kernel) rfl, by decide +kernel, ⟨by decide +kernel, by decide +kernel, by decide +kernel⟩, by decide +kernel⟩
def YM_settles : mY := (⟨"SortedOfficeModel", "settles", "()I"⟩, prog_14_method_80_code, 4, (some .int))
theorem okM_settles : m_ok YM_settles 0 := ⟨m_in (i := 1665) (by decide +kernel) rfl, m_in (i := 13) (by decide +kernel) rfl, by decide +kernel, ⟨by decide +kernel, by decide +kernel, by decide +kernel⟩, by decide +kernel⟩
def YM_period : mY := (⟨"SortedOfficeModel", "period", "()I"⟩, prog_14_method_81_code, 5, (some .int))
theorem okM_period : m_ok YM_period 0 := ⟨m_in (i := 1669) (by decide +kernel) rfl, m_in (i := 13) (by decide +kernel) rfl, by decide +kernel, ⟨by decide +kernel, by decide +kernel, by decide +kernel⟩, by decide +kernel⟩
def YM_bags : mY := (⟨"SortedOfficeModel", "bags", "(IIII)I"⟩, prog_14_method_87_code, 6, (some .int))
theorem okM_bags : m_ok YM_bags 4 := ⟨m_in (i := 1673) (by decide +kernel) rfl, m_in (i := 13) (by decide +kernel) rfl, by decide +kernel, ⟨by decide +kernel, by decide +kernel, by decide +kernel⟩, by decide +kernel⟩
def YM_findDays : mY := (⟨"SortedOfficeModel", "findDays", "(II)I"⟩, prog_14_method_84_code, 6, (some .int))
theorem okM_findDays : m_ok YM_findDays 2 := ⟨m_in (i := 1677) (by decide +kernel) rfl, m_in (i := 13) (by decide +kernel) rfl, by decide +kernel, ⟨by decide +kernel, by decide +kernel, by decide +kernel⟩, by decide +kernel⟩
def YM_isBag : mY := (⟨"SortedOfficeModel", "isBag", "(III)Z"⟩, prog_14_method_83_code, 7, (some .boolean))
theorem okM_isBag : m_ok YM_isBag 3 := ⟨m_in (i := 1681) (by decide +kernel) rfl, m_in (i := 13) (by decide +kernel) rfl, by decide +kernel, ⟨by decide +kernel, by decide +kernel, by decide +kernel⟩, by decide +kernel⟩
def YM_dayOf : mY := (⟨"SortedOfficeModel", "dayOf", "(II)I"⟩, prog_14_method_86_code, 7, (some .int))
theorem okM_dayOf : m_ok YM_dayOf 2 := ⟨m_in (i := 1685) (by decide +kernel) rfl, m_in (i := 13) (by decide +kernel) rfl, by decide +kernel, ⟨by decide +kernel, by decide +kernel, by decide +kernel⟩, by decide +kernel⟩
def YM_canGo : mY := (⟨"SortedOfficeModel", "canGo", "(II)Z"⟩, prog_14_method_85_code, 6, (some .boolean))
theorem okM_canGo : m_ok YM_canGo 2 := ⟨m_in (i := 1689) (by decide +kernel) rfl, m_in (i := 13) (by decide +kernel) rfl, by decide +kernel, ⟨by decide +kernel, by decide +kernel, by decide +kernel⟩, by decide +kernel⟩
def YM_sorters : mY := (⟨"SortedOfficeModel", "sorters", "(IZ)I"⟩, prog_14_method_89_code, 5, (some .int))
theorem okM_sorters : m_ok YM_sorters 2 := ⟨m_in (i := 1693) (by decide +kernel) rfl, m_in (i := 13) (by decide +kernel) rfl, by decide +kernel, ⟨by decide +kernel, by decide +kernel, by decide +kernel⟩, by decide +kernel⟩
def YM_leadBy : mY := (⟨"SortedOfficeModel", "leadBy", "(IIZ)I"⟩, prog_14_method_88_code, 4, (some .int))
theorem okM_leadBy : m_ok YM_leadBy 3 := ⟨m_in (i := 1697) (by decide +kernel) rfl, m_in (i := 13) (by decide +kernel) rfl, by decide +kernel, ⟨by decide +kernel, by decide +kernel, by decide +kernel⟩, by decide +kernel⟩
def YM_fact : mY := (⟨"SortedOfficeModel", "fact", "(III)I"⟩, prog_14_method_93_code, 4, (some .int))
theorem okM_fact : m_ok YM_fact 3 := ⟨m_in (i := 1701) (by decide +kernel) rfl, m_in (i := 13) (by decide +kernel) rfl, by decide +kernel, ⟨by decide +kernel, by decide +kernel, by decide +kernel⟩, by decide +kernel⟩
def YM_hasLog : mY := (⟨"SortedOfficeModel", "hasLog", "(I)Z"⟩, prog_14_method_92_code, 2, (some .boolean))
theorem okM_hasLog : m_ok YM_hasLog 1 := ⟨m_in (i := 1705) (by decide +kernel) rfl, m_in (i := 13) (by decide +kernel) rfl, by decide +kernel, ⟨by decide +kernel, by decide +kernel, by decide +kernel⟩, by decide +kernel⟩
def YM_facts : mY := (⟨"SortedOfficeModel", "facts", "()I"⟩, prog_14_method_91_code, 1, (some .int))
theorem okM_facts : m_ok YM_facts 0 := ⟨m_in (i := 1709) (by decide +kernel) rfl, m_in (i := 13) (by decide +kernel) rfl, by decide +kernel, ⟨by decide +kernel, by decide +kernel, by decide +kernel⟩, by decide +kernel⟩
def YM_factOf : mY := (⟨"SortedOfficeModel", "factOf", "(II)I"⟩, prog_14_method_90_code, 3, (some .int))
theorem okM_factOf : m_ok YM_factOf 2 := ⟨m_in (i := 1713) (by decide +kernel) rfl, m_in (i := 13) (by decide +kernel) rfl, by decide +kernel, ⟨by decide +kernel, by decide +kernel, by decide +kernel⟩, by decide +kernel⟩
def YM_fits : mY := (⟨"SortedOfficeModel", "fits", "(III)I"⟩, prog_14_method_100_code, 4, (some .int))
theorem okM_fits : m_ok YM_fits 3 := ⟨m_in (i := 1717) (by decide +kernel) rfl, m_in (i := 13) (by decide +kernel) rfl, by decide +kernel, ⟨by decide +kernel, by decide +kernel, by decide +kernel⟩, by decide +kernel⟩
def YM_layLog : mY := (⟨"SortedOfficeModel", "layLog", "(II)Z"⟩, prog_14_method_96_code, 5, (some .boolean))
theorem okM_layLog : m_ok YM_layLog 2 := ⟨m_in (i := 1721) (by decide +kernel) rfl, m_in (i := 13) (by decide +kernel) rfl, by decide +kernel, ⟨by decide +kernel, by decide +kernel, by decide +kernel⟩, by decide +kernel⟩
def YM_isSo : mY := (⟨"SortedOfficeModel", "isSo", "(I)Z"⟩, prog_14_method_95_code, 3, (some .boolean))
theorem okM_isSo : m_ok YM_isSo 1 := ⟨m_in (i := 1725) (by decide +kernel) rfl, m_in (i := 13) (by decide +kernel) rfl, by decide +kernel, ⟨by decide +kernel, by decide +kernel, by decide +kernel⟩, by decide +kernel⟩
def YM_allCome : mY := (⟨"SortedOfficeModel", "allCome", "(I)V"⟩, prog_14_method_94_code, 3, none)
theorem okM_allCome : m_ok YM_allCome 1 := ⟨m_in (i := 1729) (by decide +kernel) rfl, m_in (i := 13) (by decide +kernel) rfl, by decide +kernel, ⟨by decide +kernel, by decide +kernel, by decide +kernel⟩, by decide +kernel⟩
def YM_sureOf : mY := (⟨"SortedOfficeModel", "sureOf", "(Z)I"⟩, prog_14_method_97_code, 4, (some .int))
theorem okM_sureOf : m_ok YM_sureOf 1 := ⟨m_in (i := 1733) (by decide +kernel) rfl, m_in (i := 13) (by decide +kernel) rfl, by decide +kernel, ⟨by decide +kernel, by decide +kernel, by decide +kernel⟩, by decide +kernel⟩
def YM_ask : mY := (⟨"SortedOfficeModel", "ask", "()I"⟩, prog_14_method_99_code, 5, (some .int))
theorem okM_ask : m_ok YM_ask 0 := ⟨m_in (i := 1737) (by decide +kernel) rfl, m_in (i := 13) (by decide +kernel) rfl, by decide +kernel, ⟨by decide +kernel, by decide +kernel, by decide +kernel⟩, by decide +kernel⟩
def YM_largest : mY := (⟨"SortedOfficeModel", "largest", "(I)I"⟩, prog_14_method_98_code, 6, (some .int))
theorem okM_largest : m_ok YM_largest 1 := ⟨m_in (i := 1741) (by decide +kernel) rfl, m_in (i := 13) (by decide +kernel) rfl, by decide +kernel, ⟨by decide +kernel, by decide +kernel, by decide +kernel⟩, by decide +kernel⟩
def YM_drawn : mY := (⟨"SortedOfficeModel", "drawn", "(IIII)I"⟩, prog_14_method_103_code, 6, (some .int))
theorem okM_drawn : m_ok YM_drawn 4 := ⟨m_in (i := 1745) (by decide +kernel) rfl, m_in (i := 13) (by decide +kernel) rfl, by decide +kernel, ⟨by decide +kernel, by decide +kernel, by decide +kernel⟩, by decide +kernel⟩
def YM_drawDeed : mY := (⟨"SortedOfficeModel", "drawDeed", "()V"⟩, prog_14_method_102_code, 3, none)
theorem okM_drawDeed : m_ok YM_drawDeed 0 := ⟨m_in (i := 1749) (by decide +kernel) rfl, m_in (i := 13) (by decide +kernel) rfl, by decide +kernel, ⟨by decide +kernel, by decide +kernel, by decide +kernel⟩, by decide +kernel⟩
def YM_draw : mY := (⟨"SortedOfficeModel", "draw", "(I)I"⟩, prog_14_method_101_code, 2, (some .int))
theorem okM_draw : m_ok YM_draw 1 := ⟨m_in (i := 1753) (by decide +kernel) rfl, m_in (i := 13) (by decide +kernel) rfl, by decide +kernel, ⟨by decide +kernel, by decide +kernel, by decide +kernel⟩, by decide +kernel⟩
def YM_dear : mY := (⟨"SortedOfficeModel", "dear", "(II)I"⟩, prog_14_method_104_code, 4, (some .int))
theorem okM_dear : m_ok YM_dear 2 := ⟨m_in (i := 1758) (by decide +kernel) rfl, m_in (i := 13) (by decide +kernel) rfl, by decide +kernel, ⟨by decide +kernel, by decide +kernel, by decide +kernel⟩, by decide +kernel⟩
def YM_bestAll : mY := (⟨"SortedOfficeModel", "bestAll", "(I)I"⟩, prog_14_method_67_code, 2, (some .int))
theorem okM_bestAll : m_ok YM_bestAll 1 := ⟨m_in (i := 1762) (by decide +kernel) rfl, m_in (i := 13) (by decide +kernel) rfl, by decide +kernel, ⟨by decide +kernel, by decide +kernel, by decide +kernel⟩, by decide +kernel⟩
def YM_spoilt : mY := (⟨"SortedOfficeModel", "spoilt", "(IIZ)I"⟩, prog_14_method_105_code, 5, (some .int))
theorem okM_spoilt : m_ok YM_spoilt 3 := ⟨m_in (i := 1766) (by decide +kernel) rfl, m_in (i := 13) (by decide +kernel) rfl, by decide +kernel, ⟨by decide +kernel, by decide +kernel, by decide +kernel⟩, by decide +kernel⟩
def YM_calm : mY := (⟨"SortedOfficeModel", "calm", "(IIIZ)I"⟩, prog_14_method_106_code, 8, (some .int))
theorem okM_calm : m_ok YM_calm 4 := ⟨m_in (i := 1770) (by decide +kernel) rfl, m_in (i := 13) (by decide +kernel) rfl, by decide +kernel, ⟨by decide +kernel, by decide +kernel, by decide +kernel⟩, by decide +kernel⟩
def YM_hoped : mY := (⟨"SortedOfficeModel", "hoped", "(IIZ)J"⟩, prog_14_method_107_code, 10, (some .long))
theorem okM_hoped : m_ok YM_hoped 3 := ⟨m_in (i := 1774) (by decide +kernel) rfl, m_in (i := 13) (by decide +kernel) rfl, by decide +kernel, ⟨by decide +kernel, by decide +kernel, by decide +kernel⟩, by decide +kernel⟩
def YM_strongest : mY := (⟨"SortedOfficeModel", "strongest", "(IZ)I"⟩, prog_14_method_109_code, 8, (some .int))
theorem okM_strongest : m_ok YM_strongest 2 := ⟨m_in (i := 1778) (by decide +kernel) rfl, m_in (i := 13) (by decide +kernel) rfl, by decide +kernel, ⟨by decide +kernel, by decide +kernel, by decide +kernel⟩, by decide +kernel⟩
def YM_allBests : mY := (⟨"SortedOfficeModel", "allBests", "()I"⟩, prog_14_method_108_code, 3, (some .int))
theorem okM_allBests : m_ok YM_allBests 0 := ⟨m_in (i := 1782) (by decide +kernel) rfl, m_in (i := 13) (by decide +kernel) rfl, by decide +kernel, ⟨by decide +kernel, by decide +kernel, by decide +kernel⟩, by decide +kernel⟩
def YM_swapped : mY := (⟨"SortedOfficeModel", "swapped", "(IZ)I"⟩, prog_14_method_111_code, 8, (some .int))
theorem okM_swapped : m_ok YM_swapped 2 := ⟨m_in (i := 1786) (by decide +kernel) rfl, m_in (i := 13) (by decide +kernel) rfl, by decide +kernel, ⟨by decide +kernel, by decide +kernel, by decide +kernel⟩, by decide +kernel⟩
def YM_change : mY := (⟨"SortedOfficeModel", "change", "(II)V"⟩, prog_14_method_110_code, 4, none)
theorem okM_change : m_ok YM_change 2 := ⟨m_in (i := 1790) (by decide +kernel) rfl, m_in (i := 13) (by decide +kernel) rfl, by decide +kernel, ⟨by decide +kernel, by decide +kernel, by decide +kernel⟩, by decide +kernel⟩
def YM_strike : mY := (⟨"SortedOfficeModel", "strike", "(IIZ)J"⟩, prog_14_method_114_code, 10, (some .long))
theorem okM_strike : m_ok YM_strike 3 := ⟨m_in (i := 1794) (by decide +kernel) rfl, m_in (i := 13) (by decide +kernel) rfl, by decide +kernel, ⟨by decide +kernel, by decide +kernel, by decide +kernel⟩, by decide +kernel⟩
def YM_fairBy : mY := (⟨"SortedOfficeModel", "fairBy", "(II)I"⟩, prog_14_method_113_code, 7, (some .int))
theorem okM_fairBy : m_ok YM_fairBy 2 := ⟨m_in (i := 1798) (by decide +kernel) rfl, m_in (i := 13) (by decide +kernel) rfl, by decide +kernel, ⟨by decide +kernel, by decide +kernel, by decide +kernel⟩, by decide +kernel⟩
def YM_isFair : mY := (⟨"SortedOfficeModel", "isFair", "()Z"⟩, prog_14_method_112_code, 2, (some .boolean))
theorem okM_isFair : m_ok YM_isFair 0 := ⟨m_in (i := 1802) (by decide +kernel) rfl, m_in (i := 13) (by decide +kernel) rfl, by decide +kernel, ⟨by decide +kernel, by decide +kernel, by decide +kernel⟩, by decide +kernel⟩
def YM_ruled : mY := (⟨"SortedOfficeModel", "ruled", "(II)I"⟩, prog_14_method_120_code, 3, (some .int))
theorem okM_ruled : m_ok YM_ruled 2 := ⟨m_in (i := 1806) (by decide +kernel) rfl, m_in (i := 13) (by decide +kernel) rfl, by decide +kernel, ⟨by decide +kernel, by decide +kernel, by decide +kernel⟩, by decide +kernel⟩
def YM_couples : mY := (⟨"SortedOfficeModel", "couples", "()I"⟩, prog_14_method_115_code, 4, (some .int))
theorem okM_couples : m_ok YM_couples 0 := ⟨m_in (i := 1810) (by decide +kernel) rfl, m_in (i := 13) (by decide +kernel) rfl, by decide +kernel, ⟨by decide +kernel, by decide +kernel, by decide +kernel⟩, by decide +kernel⟩
def YM_follow : mY := (⟨"SortedOfficeModel", "follow", "()I"⟩, prog_14_method_116_code, 5, (some .int))
theorem okM_follow : m_ok YM_follow 0 := ⟨m_in (i := 1814) (by decide +kernel) rfl, m_in (i := 13) (by decide +kernel) rfl, by decide +kernel, ⟨by decide +kernel, by decide +kernel, by decide +kernel⟩, by decide +kernel⟩
def YM_loose : mY := (⟨"SortedOfficeModel", "loose", "()I"⟩, prog_14_method_117_code, 4, (some .int))
theorem okM_loose : m_ok YM_loose 0 := ⟨m_in (i := 1818) (by decide +kernel) rfl, m_in (i := 13) (by decide +kernel) rfl, by decide +kernel, ⟨by decide +kernel, by decide +kernel, by decide +kernel⟩, by decide +kernel⟩
def YM_touched : mY := (⟨"SortedOfficeModel", "touched", "()I"⟩, prog_14_method_118_code, 3, (some .int))
theorem okM_touched : m_ok YM_touched 0 := ⟨m_in (i := 1822) (by decide +kernel) rfl, m_in (i := 13) (by decide +kernel) rfl, by decide +kernel, ⟨by decide +kernel, by decide +kernel, by decide +kernel⟩, by decide +kernel⟩
def YM_ranked : mY := (⟨"SortedOfficeModel", "ranked", "(I)I"⟩, prog_14_method_119_code, 5, (some .int))
theorem okM_ranked : m_ok YM_ranked 1 := ⟨m_in (i := 1826) (by decide +kernel) rfl, m_in (i := 13) (by decide +kernel) rfl, by decide +kernel, ⟨by decide +kernel, by decide +kernel, by decide +kernel⟩, by decide +kernel⟩
def YM_after : mY := (⟨"SortedOfficeModel", "after", "(III)I"⟩, prog_14_method_121_code, 9, (some .int))
theorem okM_after : m_ok YM_after 3 := ⟨m_in (i := 1830) (by decide +kernel) rfl, m_in (i := 13) (by decide +kernel) rfl, by decide +kernel, ⟨by decide +kernel, by decide +kernel, by decide +kernel⟩, by decide +kernel⟩
def YM_then : mY := (⟨"SortedOfficeModel", "then", "(IIII)I"⟩, prog_14_method_122_code, 5, (some .int))
theorem okM_then : m_ok YM_then 4 := ⟨m_in (i := 1834) (by decide +kernel) rfl, m_in (i := 13) (by decide +kernel) rfl, by decide +kernel, ⟨by decide +kernel, by decide +kernel, by decide +kernel⟩, by decide +kernel⟩
def YM_count : mY := (⟨"SortedOfficeModel", "count", "(I)I"⟩, prog_14_method_123_code, 2, (some .int))
theorem okM_count : m_ok YM_count 1 := ⟨m_in (i := 1838) (by decide +kernel) rfl, m_in (i := 13) (by decide +kernel) rfl, by decide +kernel, ⟨by decide +kernel, by decide +kernel, by decide +kernel⟩, by decide +kernel⟩
def YM_image : mY := (⟨"SortedOfficeModel", "image", "(I)Z"⟩, prog_14_method_124_code, 2, (some .boolean))
theorem okM_image : m_ok YM_image 1 := ⟨m_in (i := 1842) (by decide +kernel) rfl, m_in (i := 13) (by decide +kernel) rfl, by decide +kernel, ⟨by decide +kernel, by decide +kernel, by decide +kernel⟩, by decide +kernel⟩
def YM_copyAll : mY := (⟨"SortedOfficeModel", "copyAll", "(II)V"⟩, prog_14_method_9_code, 4, none)
theorem okM_copyAll : m_ok YM_copyAll 2 := ⟨m_in (i := 1846) (by decide +kernel) rfl, m_in (i := 13) (by decide +kernel) rfl, by decide +kernel, ⟨by decide +kernel, by decide +kernel, by decide +kernel⟩, by decide +kernel⟩
def YM_copyRow : mY := (⟨"SortedOfficeModel", "copyRow", "([IIII)V"⟩, prog_14_method_8_code, 5, none)
theorem okM_copyRow : m_ok YM_copyRow 4 := ⟨m_in (i := 1849) (by decide +kernel) rfl, m_in (i := 13) (by decide +kernel) rfl, by decide +kernel, ⟨by decide +kernel, by decide +kernel, by decide +kernel⟩, by decide +kernel⟩
def YM_again : mY := (⟨"SortedOfficeModel", "again", "(I)Z"⟩, prog_14_method_125_code, 2, (some .boolean))
theorem okM_again : m_ok YM_again 1 := ⟨m_in (i := 1853) (by decide +kernel) rfl, m_in (i := 13) (by decide +kernel) rfl, by decide +kernel, ⟨by decide +kernel, by decide +kernel, by decide +kernel⟩, by decide +kernel⟩
