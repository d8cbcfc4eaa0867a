def m_C0 : String := "SortedOffice$Bags"
def m_T0 : u_T := fun k => match k with
  | 0 => ("SortedOffice$Bags", "dayOf", "[I", true)
  | 1 => ("SortedOffice$Bags", "given", "[I", true)
  | 2 => ("SortedOffice$Bags", "loads", "[I", true)
  | 3 => ("SortedOffice$Bags", "office", "LSortedOffice$Office;", false)
  | 4 => ("SortedOffice$Bags", "force", "I", false)
  | _ => ("SortedOffice$Bags", "most", "I", false)
def m_t0 : Nat → FieldType := fun k => match k with
  | 0 => (.array .int)
  | 1 => (.array .int)
  | 2 => (.array .int)
  | 3 => (.object "SortedOffice$Office")
  | 4 => .int
  | _ => .int
def m_C1 : String := "SortedOffice$Chances"
def m_T1 : u_T := fun k => match k with
  | 0 => ("SortedOffice$Chances", "above", "J", false)
  | 1 => ("SortedOffice$Chances", "below", "J", false)
  | 2 => ("SortedOffice$Chances", "office", "LSortedOffice$Office;", false)
  | 3 => ("SortedOffice$Chances", "changes", "[I", true)
  | _ => ("SortedOffice$Chances", "last", "[I", true)
def m_t1 : Nat → FieldType := fun k => match k with
  | 0 => .long
  | 1 => .long
  | 2 => (.object "SortedOffice$Office")
  | 3 => (.array .int)
  | _ => (.array .int)
def m_C2 : String := "SortedOffice$Course"
def m_T2 : u_T := fun k => match k with
  | 0 => ("SortedOffice$Course", "office", "LSortedOffice$Office;", false)
  | 1 => ("SortedOffice$Course", "seed", "I", false)
  | 2 => ("SortedOffice$Course", "left", "I", false)
  | 3 => ("SortedOffice$Course", "nights", "I", false)
  | 4 => ("SortedOffice$Course", "slipped", "I", false)
  | 5 => ("SortedOffice$Course", "did", "I", false)
  | 6 => ("SortedOffice$Course", "moods", "[I", true)
  | 7 => ("SortedOffice$Course", "last", "[I", true)
  | 8 => ("SortedOffice$Course", "came", "[I", true)
  | 9 => ("SortedOffice$Course", "grieved", "I", false)
  | 10 => ("SortedOffice$Course", "low", "I", false)
  | 11 => ("SortedOffice$Course", "failed", "I", false)
  | _ => ("SortedOffice$Course", "idle", "I", false)
def m_t2 : Nat → FieldType := fun k => match k with
  | 0 => (.object "SortedOffice$Office")
  | 1 => .int
  | 2 => .int
  | 3 => .int
  | 4 => .int
  | 5 => .int
  | 6 => (.array .int)
  | 7 => (.array .int)
  | 8 => (.array .int)
  | 9 => .int
  | 10 => .int
  | 11 => .int
  | _ => .int
def m_C3 : String := "SortedOffice$Log"
def m_T3 : u_T := fun k => match k with
  | 0 => ("SortedOffice$Log", "facts", "I", false)
  | 1 => ("SortedOffice$Log", "houses", "[I", true)
  | _ => ("SortedOffice$Log", "moods", "[I", true)
def m_t3 : Nat → FieldType := fun k => match k with
  | 0 => .int
  | 1 => (.array .int)
  | _ => (.array .int)
def m_C4 : String := "SortedOffice$Office"
def m_T4 : u_T := fun k => match k with
  | 0 => ("SortedOffice$Office", "houses", "I", false)
  | 1 => ("SortedOffice$Office", "letters", "I", false)
  | 2 => ("SortedOffice$Office", "laws", "I", false)
  | 3 => ("SortedOffice$Office", "moods", "[I", true)
  | 4 => ("SortedOffice$Office", "homes", "[I", true)
  | 5 => ("SortedOffice$Office", "kinds", "[I", true)
  | 6 => ("SortedOffice$Office", "forces", "[I", true)
  | 7 => ("SortedOffice$Office", "plains", "[I", true)
  | 8 => ("SortedOffice$Office", "minded", "[I", true)
  | 9 => ("SortedOffice$Office", "shifts", "[I", true)
  | _ => ("SortedOffice$Office", "times", "[I", true)
def m_t4 : Nat → FieldType := fun k => match k with
  | 0 => .int
  | 1 => .int
  | 2 => .int
  | 3 => (.array .int)
  | 4 => (.array .int)
  | 5 => (.array .int)
  | 6 => (.array .int)
  | 7 => (.array .int)
  | 8 => (.array .int)
  | 9 => (.array .int)
  | _ => (.array .int)
def m_C5 : String := "SortedOffice$Orders"
def m_T5 : u_T := fun k => match k with
  | 0 => ("SortedOffice$Orders", "found", "I", false)
  | 1 => ("SortedOffice$Orders", "much", "I", false)
  | 2 => ("SortedOffice$Orders", "size", "I", false)
  | 3 => ("SortedOffice$Orders", "group", "[I", true)
  | 4 => ("SortedOffice$Orders", "kinds", "[I", true)
  | 5 => ("SortedOffice$Orders", "doings", "[I", true)
  | 6 => ("SortedOffice$Orders", "gains", "[I", true)
  | 7 => ("SortedOffice$Orders", "bests", "[I", true)
  | 8 => ("SortedOffice$Orders", "leads", "[I", true)
  | _ => ("SortedOffice$Orders", "trial", "LSortedOffice$Office;", true)
def m_t5 : Nat → FieldType := fun k => match k with
  | 0 => .int
  | 1 => .int
  | 2 => .int
  | 3 => (.array .int)
  | 4 => (.array .int)
  | 5 => (.array .int)
  | 6 => (.array .int)
  | 7 => (.array .int)
  | 8 => (.array .int)
  | _ => (.object "SortedOffice$Office")
def m_C6 : String := "SortedOffice$Racks"
def m_T6 : u_T := fun k => match k with
  | 0 => ("SortedOffice$Racks", "ring", "I", false)
  | _ => ("SortedOffice$Racks", "blind", "I", false)
def m_t6 : Nat → FieldType := fun k => match k with
  | 0 => .int
  | _ => .int
def m_C7 : String := "SortedOffice$Reader"
def m_T7 : u_T := fun k => match k with
  | 0 => ("SortedOffice$Reader", "office", "LSortedOffice$Office;", true)
  | 1 => ("SortedOffice$Reader", "week", "LSortedOffice$Week;", true)
  | 2 => ("SortedOffice$Reader", "log", "LSortedOffice$Log;", true)
  | 3 => ("SortedOffice$Reader", "fault", "I", false)
  | 4 => ("SortedOffice$Reader", "place", "I", false)
  | 5 => ("SortedOffice$Reader", "tape", "[B", false)
  | 6 => ("SortedOffice$Reader", "length", "I", false)
  | 7 => ("SortedOffice$Reader", "token", "I", false)
  | 8 => ("SortedOffice$Reader", "tokenPlace", "I", false)
  | 9 => ("SortedOffice$Reader", "tokenEnd", "I", false)
  | 10 => ("SortedOffice$Reader", "linePlace", "I", false)
  | 11 => ("SortedOffice$Reader", "kinds", "[I", true)
  | 12 => ("SortedOffice$Reader", "kindsTold", "I", false)
  | 13 => ("SortedOffice$Reader", "numbers", "[I", true)
  | 14 => ("SortedOffice$Reader", "numberPlaces", "[I", true)
  | 15 => ("SortedOffice$Reader", "numbersTold", "I", false)
  | 16 => ("SortedOffice$Reader", "greatestHouse", "I", false)
  | _ => ("SortedOffice$Reader", "greatestLetter", "I", false)
def m_t7 : Nat → FieldType := fun k => match k with
  | 0 => (.object "SortedOffice$Office")
  | 1 => (.object "SortedOffice$Week")
  | 2 => (.object "SortedOffice$Log")
  | 3 => .int
  | 4 => .int
  | 5 => (.array .byte)
  | 6 => .int
  | 7 => .int
  | 8 => .int
  | 9 => .int
  | 10 => .int
  | 11 => (.array .int)
  | 12 => .int
  | 13 => (.array .int)
  | 14 => (.array .int)
  | 15 => .int
  | 16 => .int
  | _ => .int
def m_C8 : String := "SortedOffice$Slips"
def m_T8 : u_T := fun k => match k with
  | 0 => ("SortedOffice$Slips", "found", "I", false)
  | 1 => ("SortedOffice$Slips", "codes", "[I", true)
  | 2 => ("SortedOffice$Slips", "moods", "[I", true)
  | 3 => ("SortedOffice$Slips", "course", "LSortedOffice$Course;", true)
  | _ => ("SortedOffice$Slips", "houses", "I", false)
def m_t8 : Nat → FieldType := fun k => match k with
  | 0 => .int
  | 1 => (.array .int)
  | 2 => (.array .int)
  | 3 => (.object "SortedOffice$Course")
  | _ => .int
def m_C9 : String := "SortedOffice$Told"
def m_T9 : u_T := fun k => match k with
  | 0 => ("SortedOffice$Told", "tape", "[B", true)
  | 1 => ("SortedOffice$Told", "length", "I", false)
  | 2 => ("SortedOffice$Told", "fault", "I", false)
  | 3 => ("SortedOffice$Told", "place", "I", false)
  | 4 => ("SortedOffice$Told", "counts", "[I", true)
  | 5 => ("SortedOffice$Told", "offices", "[LSortedOffice$Office;", true)
  | 6 => ("SortedOffice$Told", "weeks", "[LSortedOffice$Week;", true)
  | _ => ("SortedOffice$Told", "logs", "[LSortedOffice$Log;", true)
def m_t9 : Nat → FieldType := fun k => match k with
  | 0 => (.array .byte)
  | 1 => .int
  | 2 => .int
  | 3 => .int
  | 4 => (.array .int)
  | 5 => (.array (.object "SortedOffice$Office"))
  | 6 => (.array (.object "SortedOffice$Week"))
  | _ => (.array (.object "SortedOffice$Log"))
def m_C10 : String := "SortedOffice$Week"
def m_T10 : u_T := fun k => match k with
  | 0 => ("SortedOffice$Week", "deeds", "I", false)
  | 1 => ("SortedOffice$Week", "kinds", "[I", true)
  | 2 => ("SortedOffice$Week", "letters", "[I", true)
  | _ => ("SortedOffice$Week", "houses", "[I", true)
def m_t10 : Nat → FieldType := fun k => match k with
  | 0 => .int
  | 1 => (.array .int)
  | 2 => (.array .int)
  | _ => (.array .int)
def m_C11 : String := "SortedOffice"
def m_T11 : u_T := fun k => match k with
  | 0 => ("SortedOffice", "told", "LSortedOffice$Told;", true)
  | 1 => ("SortedOffice", "images", "[LSortedOffice$Told;", true)
  | 2 => ("SortedOffice", "reader", "LSortedOffice$Reader;", true)
  | 3 => ("SortedOffice", "course", "LSortedOffice$Course;", true)
  | 4 => ("SortedOffice", "orders", "LSortedOffice$Orders;", true)
  | 5 => ("SortedOffice", "racks", "LSortedOffice$Racks;", true)
  | 6 => ("SortedOffice", "days", "LSortedOffice$Bags;", true)
  | 7 => ("SortedOffice", "slips", "LSortedOffice$Slips;", true)
  | _ => ("SortedOffice", "chances", "LSortedOffice$Chances;", true)
def m_t11 : Nat → FieldType := fun k => match k with
  | 0 => (.object "SortedOffice$Told")
  | 1 => (.array (.object "SortedOffice$Told"))
  | 2 => (.object "SortedOffice$Reader")
  | 3 => (.object "SortedOffice$Course")
  | 4 => (.object "SortedOffice$Orders")
  | 5 => (.object "SortedOffice$Racks")
  | 6 => (.object "SortedOffice$Bags")
  | 7 => (.object "SortedOffice$Slips")
  | _ => (.object "SortedOffice$Chances")
def m_C12 : String := "SortedOfficeModel"
def m_T12 : u_T := fun k => match k with
  | 0 => ("SortedOfficeModel", "code", "I", false)
  | 1 => ("SortedOfficeModel", "tape", "[B", true)
  | 2 => ("SortedOfficeModel", "size", "[I", true)
  | 3 => ("SortedOfficeModel", "fault", "[I", true)
  | 4 => ("SortedOfficeModel", "faultPlace", "[I", true)
  | 5 => ("SortedOfficeModel", "many", "[I", true)
  | 6 => ("SortedOfficeModel", "offices", "[I", true)
  | 7 => ("SortedOfficeModel", "weeks", "[I", true)
  | 8 => ("SortedOfficeModel", "logs", "[I", true)
  | 9 => ("SortedOfficeModel", "reached", "I", false)
  | 10 => ("SortedOfficeModel", "length", "I", false)
  | 11 => ("SortedOfficeModel", "begins", "I", false)
  | 12 => ("SortedOfficeModel", "sort", "I", false)
  | 13 => ("SortedOfficeModel", "value", "I", false)
  | 14 => ("SortedOfficeModel", "word", "J", false)
  | 15 => ("SortedOfficeModel", "wrongAt", "I", false)
  | 16 => ("SortedOfficeModel", "laterFault", "I", false)
  | 17 => ("SortedOfficeModel", "laterPlace", "I", false)
  | 18 => ("SortedOfficeModel", "told", "[I", true)
  | 19 => ("SortedOfficeModel", "read", "[I", true)
  | 20 => ("SortedOfficeModel", "farHouse", "I", false)
  | 21 => ("SortedOfficeModel", "farLetter", "I", false)
  | 22 => ("SortedOfficeModel", "good", "Z", false)
  | 23 => ("SortedOfficeModel", "office", "I", false)
  | 24 => ("SortedOfficeModel", "houses", "I", false)
  | 25 => ("SortedOfficeModel", "letters", "I", false)
  | 26 => ("SortedOfficeModel", "home", "[I", true)
  | 27 => ("SortedOfficeModel", "mood", "[I", true)
  | 28 => ("SortedOfficeModel", "last", "[I", true)
  | 29 => ("SortedOfficeModel", "came", "[I", true)
  | 30 => ("SortedOfficeModel", "law", "I", false)
  | 31 => ("SortedOfficeModel", "week", "I", false)
  | 32 => ("SortedOfficeModel", "nights", "I", false)
  | 33 => ("SortedOfficeModel", "left", "I", false)
  | 34 => ("SortedOfficeModel", "slipped", "I", false)
  | 35 => ("SortedOfficeModel", "done", "I", false)
  | 36 => ("SortedOfficeModel", "failed", "I", false)
  | 37 => ("SortedOfficeModel", "idle", "I", false)
  | 38 => ("SortedOfficeModel", "bests", "[I", true)
  | 39 => ("SortedOfficeModel", "lowest", "I", false)
  | 40 => ("SortedOfficeModel", "blind", "I", false)
  | 41 => ("SortedOfficeModel", "mayGo", "[Z", true)
  | 42 => ("SortedOfficeModel", "fewest", "[I", true)
  | 43 => ("SortedOfficeModel", "bag", "[I", true)
  | 44 => ("SortedOfficeModel", "leftOnes", "[Z", true)
  | 45 => ("SortedOfficeModel", "nextOnes", "[Z", true)
  | 46 => ("SortedOfficeModel", "leads", "[I", true)
  | 47 => ("SortedOfficeModel", "log", "I", false)
  | 48 => ("SortedOfficeModel", "fitting", "[I", true)
  | 49 => ("SortedOfficeModel", "found", "I", false)
  | 50 => ("SortedOfficeModel", "moods", "[I", true)
  | 51 => ("SortedOfficeModel", "seed", "I", false)
  | 52 => ("SortedOfficeModel", "astray", "[I", true)
  | 53 => ("SortedOfficeModel", "bestMood", "[I", true)
  | _ => ("SortedOfficeModel", "kept", "[Z", true)
def m_t12 : Nat → FieldType := fun k => match k with
  | 0 => .int
  | 1 => (.array .byte)
  | 2 => (.array .int)
  | 3 => (.array .int)
  | 4 => (.array .int)
  | 5 => (.array .int)
  | 6 => (.array .int)
  | 7 => (.array .int)
  | 8 => (.array .int)
  | 9 => .int
  | 10 => .int
  | 11 => .int
  | 12 => .int
  | 13 => .int
  | 14 => .long
  | 15 => .int
  | 16 => .int
  | 17 => .int
  | 18 => (.array .int)
  | 19 => (.array .int)
  | 20 => .int
  | 21 => .int
  | 22 => .boolean
  | 23 => .int
  | 24 => .int
  | 25 => .int
  | 26 => (.array .int)
  | 27 => (.array .int)
  | 28 => (.array .int)
  | 29 => (.array .int)
  | 30 => .int
  | 31 => .int
  | 32 => .int
  | 33 => .int
  | 34 => .int
  | 35 => .int
  | 36 => .int
  | 37 => .int
  | 38 => (.array .int)
  | 39 => .int
  | 40 => .int
  | 41 => (.array .boolean)
  | 42 => (.array .int)
  | 43 => (.array .int)
  | 44 => (.array .boolean)
  | 45 => (.array .boolean)
  | 46 => (.array .int)
  | 47 => .int
  | 48 => (.array .int)
  | 49 => .int
  | 50 => (.array .int)
  | 51 => .int
  | 52 => (.array .int)
  | 53 => (.array .int)
  | _ => (.array .boolean)
abbrev m_cl : List vw_C := [(m_C0, m_T0, 6), (m_C1, m_T1, 5), (m_C2, m_T2, 13), (m_C3, m_T3, 3), (m_C4, m_T4, 11), (m_C5, m_T5, 10), (m_C6, m_T6, 2), (m_C7, m_T7, 18), (m_C8, m_T8, 5), (m_C9, m_T9, 8), (m_C10, m_T10, 4), (m_C11, m_T11, 9), (m_C12, m_T12, 55)]
/-- a slot of a class: 0 an int, 1 a long, 2 a reference -/
def m_sty : Nat → Nat → Nat := fun c k => match c with
  | 0 => ([2, 2, 2, 2, 0, 0] : List Nat).getD k 0
  | 1 => ([1, 1, 2, 2, 2] : List Nat).getD k 0
  | 2 => ([2, 0, 0, 0, 0, 0, 2, 2, 2, 0, 0, 0, 0] : List Nat).getD k 0
  | 3 => ([0, 2, 2] : List Nat).getD k 0
  | 4 => ([0, 0, 0, 2, 2, 2, 2, 2, 2, 2, 2] : List Nat).getD k 0
  | 5 => ([0, 0, 0, 2, 2, 2, 2, 2, 2, 2] : List Nat).getD k 0
  | 6 => ([0, 0] : List Nat).getD k 0
  | 7 => ([2, 2, 2, 0, 0, 2, 0, 0, 0, 0, 0, 2, 0, 2, 2, 0, 0, 0] : List Nat).getD k 0
  | 8 => ([0, 2, 2, 2, 0] : List Nat).getD k 0
  | 9 => ([2, 0, 0, 0, 2, 2, 2, 2] : List Nat).getD k 0
  | 10 => ([0, 2, 2, 2] : List Nat).getD k 0
  | 11 => ([2, 2, 2, 2, 2, 2, 2, 2, 2] : List Nat).getD k 0
  | _ => ([0, 2, 2, 2, 2, 2, 2, 2, 2, 0, 0, 0, 0, 0, 1, 0, 0, 0, 2, 2, 0, 0, 0, 0, 0, 0, 2, 2, 2, 2, 0, 0, 0, 0, 0, 0, 0, 0, 2, 0, 0, 2, 2, 2, 2, 2, 2, 0, 2, 0, 2, 0, 2, 2, 2] : List Nat).getD k 0
/-- all cells in the order in which they are made: kind (below 50 a class, 50 int[], 51 byte[], 52 boolean[], then Told[], Office[], Week[], Log[]) and size -/
def m_layL : List (Nat × Nat) := [(11, 9), (9, 8), (51, 600), (50, 3), (54, 2), (4, 11), (50, 6), (50, 10), (50, 10), (50, 10), (50, 10), (50, 10), (50, 10), (50, 16), (4, 11), (50, 6), (50, 10), (50, 10), (50, 10), (50, 10), (50, 10), (50, 10), (50, 16), (55, 2), (10, 4), (50, 40), (50, 40), (50, 40), (10, 4), (50, 40), (50, 40), (50, 40), (56, 2), (3, 3), (50, 8), (50, 8), (3, 3), (50, 8), (50, 8), (53, 3), (7, 18), (4, 11), (50, 6), (50, 10), (50, 10), (50, 10), (50, 10), (50, 10), (50, 10), (50, 16), (10, 4), (50, 40), (50, 40), (50, 40), (3, 3), (50, 8), (50, 8), (50, 3), (50, 3), (50, 3), (2, 13), (50, 6), (50, 6), (50, 6), (5, 10), (50, 10), (50, 10), (50, 50), (50, 5120), (50, 6), (50, 10), (4, 11), (50, 6), (50, 10), (50, 10), (50, 10), (50, 10), (50, 10), (50, 10), (50, 16), (6, 2), (0, 6), (50, 10), (50, 10), (50, 60), (8, 5), (50, 61), (50, 366), (2, 13), (50, 6), (50, 6), (50, 6), (1, 5), (50, 6), (50, 6), (12, 55), (51, 2400), (50, 4), (50, 4), (50, 4), (50, 12), (50, 600), (50, 968), (50, 136), (50, 121), (50, 3), (50, 10), (50, 6), (50, 6), (50, 6), (50, 5120), (52, 1024), (50, 1024), (50, 10), (52, 1024), (52, 1024), (50, 121), (50, 61), (50, 366), (50, 10), (50, 6), (52, 3), (9, 8), (51, 600), (50, 3), (54, 2), (4, 11), (50, 6), (50, 10), (50, 10), (50, 10), (50, 10), (50, 10), (50, 10), (50, 16), (4, 11), (50, 6), (50, 10), (50, 10), (50, 10), (50, 10), (50, 10), (50, 10), (50, 16), (55, 2), (10, 4), (50, 40), (50, 40), (50, 40), (10, 4), (50, 40), (50, 40), (50, 40), (56, 2), (3, 3), (50, 8), (50, 8), (3, 3), (50, 8), (50, 8), (9, 8), (51, 600), (50, 3), (54, 2), (4, 11), (50, 6), (50, 10), (50, 10), (50, 10), (50, 10), (50, 10), (50, 10), (50, 16), (4, 11), (50, 6), (50, 10), (50, 10), (50, 10), (50, 10), (50, 10), (50, 10), (50, 16), (55, 2), (10, 4), (50, 40), (50, 40), (50, 40), (10, 4), (50, 40), (50, 40), (50, 40), (56, 2), (3, 3), (50, 8), (50, 8), (3, 3), (50, 8), (50, 8), (9, 8), (51, 600), (50, 3), (54, 2), (4, 11), (50, 6), (50, 10), (50, 10), (50, 10), (50, 10), (50, 10), (50, 10), (50, 16), (4, 11), (50, 6), (50, 10), (50, 10), (50, 10), (50, 10), (50, 10), (50, 10), (50, 16), (55, 2), (10, 4), (50, 40), (50, 40), (50, 40), (10, 4), (50, 40), (50, 40), (50, 40), (56, 2), (3, 3), (50, 8), (50, 8), (3, 3), (50, 8), (50, 8)]
def m_lay (i : Nat) : Nat × Nat := m_layL.getD i (99, 0)
theorem ly_0 : m_lay 0 = (11, 9) := by decide +kernel
theorem ly_1 : m_lay 1 = (9, 8) := by decide +kernel
theorem ly_2 : m_lay 2 = (51, 600) := by decide +kernel
theorem ly_3 : m_lay 3 = (50, 3) := by decide +kernel
theorem ly_4 : m_lay 4 = (54, 2) := by decide +kernel
theorem ly_5 : m_lay 5 = (4, 11) := by decide +kernel
theorem ly_6 : m_lay 6 = (50, 6) := by decide +kernel
theorem ly_7 : m_lay 7 = (50, 10) := by decide +kernel
theorem ly_8 : m_lay 8 = (50, 10) := by decide +kernel
theorem ly_9 : m_lay 9 = (50, 10) := by decide +kernel
theorem ly_10 : m_lay 10 = (50, 10) := by decide +kernel
theorem ly_11 : m_lay 11 = (50, 10) := by decide +kernel
theorem ly_12 : m_lay 12 = (50, 10) := by decide +kernel
theorem ly_13 : m_lay 13 = (50, 16) := by decide +kernel
theorem ly_14 : m_lay 14 = (4, 11) := by decide +kernel
theorem ly_15 : m_lay 15 = (50, 6) := by decide +kernel
theorem ly_16 : m_lay 16 = (50, 10) := by decide +kernel
theorem ly_17 : m_lay 17 = (50, 10) := by decide +kernel
theorem ly_18 : m_lay 18 = (50, 10) := by decide +kernel
theorem ly_19 : m_lay 19 = (50, 10) := by decide +kernel
theorem ly_20 : m_lay 20 = (50, 10) := by decide +kernel
theorem ly_21 : m_lay 21 = (50, 10) := by decide +kernel
theorem ly_22 : m_lay 22 = (50, 16) := by decide +kernel
theorem ly_23 : m_lay 23 = (55, 2) := by decide +kernel
theorem ly_24 : m_lay 24 = (10, 4) := by decide +kernel
theorem ly_25 : m_lay 25 = (50, 40) := by decide +kernel
theorem ly_26 : m_lay 26 = (50, 40) := by decide +kernel
theorem ly_27 : m_lay 27 = (50, 40) := by decide +kernel
theorem ly_28 : m_lay 28 = (10, 4) := by decide +kernel
theorem ly_29 : m_lay 29 = (50, 40) := by decide +kernel
theorem ly_30 : m_lay 30 = (50, 40) := by decide +kernel
theorem ly_31 : m_lay 31 = (50, 40) := by decide +kernel
theorem ly_32 : m_lay 32 = (56, 2) := by decide +kernel
theorem ly_33 : m_lay 33 = (3, 3) := by decide +kernel
theorem ly_34 : m_lay 34 = (50, 8) := by decide +kernel
theorem ly_35 : m_lay 35 = (50, 8) := by decide +kernel
theorem ly_36 : m_lay 36 = (3, 3) := by decide +kernel
theorem ly_37 : m_lay 37 = (50, 8) := by decide +kernel
theorem ly_38 : m_lay 38 = (50, 8) := by decide +kernel
theorem ly_39 : m_lay 39 = (53, 3) := by decide +kernel
theorem ly_40 : m_lay 40 = (7, 18) := by decide +kernel
theorem ly_41 : m_lay 41 = (4, 11) := by decide +kernel
theorem ly_42 : m_lay 42 = (50, 6) := by decide +kernel
theorem ly_43 : m_lay 43 = (50, 10) := by decide +kernel
theorem ly_44 : m_lay 44 = (50, 10) := by decide +kernel
theorem ly_45 : m_lay 45 = (50, 10) := by decide +kernel
theorem ly_46 : m_lay 46 = (50, 10) := by decide +kernel
theorem ly_47 : m_lay 47 = (50, 10) := by decide +kernel
theorem ly_48 : m_lay 48 = (50, 10) := by decide +kernel
theorem ly_49 : m_lay 49 = (50, 16) := by decide +kernel
theorem ly_50 : m_lay 50 = (10, 4) := by decide +kernel
theorem ly_51 : m_lay 51 = (50, 40) := by decide +kernel
theorem ly_52 : m_lay 52 = (50, 40) := by decide +kernel
theorem ly_53 : m_lay 53 = (50, 40) := by decide +kernel
theorem ly_54 : m_lay 54 = (3, 3) := by decide +kernel
theorem ly_55 : m_lay 55 = (50, 8) := by decide +kernel
theorem ly_56 : m_lay 56 = (50, 8) := by decide +kernel
theorem ly_57 : m_lay 57 = (50, 3) := by decide +kernel
theorem ly_58 : m_lay 58 = (50, 3) := by decide +kernel
theorem ly_59 : m_lay 59 = (50, 3) := by decide +kernel
theorem ly_60 : m_lay 60 = (2, 13) := by decide +kernel
theorem ly_61 : m_lay 61 = (50, 6) := by decide +kernel
theorem ly_62 : m_lay 62 = (50, 6) := by decide +kernel
theorem ly_63 : m_lay 63 = (50, 6) := by decide +kernel
theorem ly_64 : m_lay 64 = (5, 10) := by decide +kernel
theorem ly_65 : m_lay 65 = (50, 10) := by decide +kernel
theorem ly_66 : m_lay 66 = (50, 10) := by decide +kernel
theorem ly_67 : m_lay 67 = (50, 50) := by decide +kernel
theorem ly_68 : m_lay 68 = (50, 5120) := by decide +kernel
theorem ly_69 : m_lay 69 = (50, 6) := by decide +kernel
theorem ly_70 : m_lay 70 = (50, 10) := by decide +kernel
theorem ly_71 : m_lay 71 = (4, 11) := by decide +kernel
theorem ly_72 : m_lay 72 = (50, 6) := by decide +kernel
theorem ly_73 : m_lay 73 = (50, 10) := by decide +kernel
theorem ly_74 : m_lay 74 = (50, 10) := by decide +kernel
theorem ly_75 : m_lay 75 = (50, 10) := by decide +kernel
theorem ly_76 : m_lay 76 = (50, 10) := by decide +kernel
theorem ly_77 : m_lay 77 = (50, 10) := by decide +kernel
theorem ly_78 : m_lay 78 = (50, 10) := by decide +kernel
theorem ly_79 : m_lay 79 = (50, 16) := by decide +kernel
theorem ly_80 : m_lay 80 = (6, 2) := by decide +kernel
theorem ly_81 : m_lay 81 = (0, 6) := by decide +kernel
theorem ly_82 : m_lay 82 = (50, 10) := by decide +kernel
theorem ly_83 : m_lay 83 = (50, 10) := by decide +kernel
theorem ly_84 : m_lay 84 = (50, 60) := by decide +kernel
theorem ly_85 : m_lay 85 = (8, 5) := by decide +kernel
theorem ly_86 : m_lay 86 = (50, 61) := by decide +kernel
theorem ly_87 : m_lay 87 = (50, 366) := by decide +kernel
theorem ly_88 : m_lay 88 = (2, 13) := by decide +kernel
theorem ly_89 : m_lay 89 = (50, 6) := by decide +kernel
theorem ly_90 : m_lay 90 = (50, 6) := by decide +kernel
theorem ly_91 : m_lay 91 = (50, 6) := by decide +kernel
theorem ly_92 : m_lay 92 = (1, 5) := by decide +kernel
theorem ly_93 : m_lay 93 = (50, 6) := by decide +kernel
theorem ly_94 : m_lay 94 = (50, 6) := by decide +kernel
theorem ly_95 : m_lay 95 = (12, 55) := by decide +kernel
theorem ly_96 : m_lay 96 = (51, 2400) := by decide +kernel
theorem ly_97 : m_lay 97 = (50, 4) := by decide +kernel
theorem ly_98 : m_lay 98 = (50, 4) := by decide +kernel
theorem ly_99 : m_lay 99 = (50, 4) := by decide +kernel
theorem ly_100 : m_lay 100 = (50, 12) := by decide +kernel
theorem ly_101 : m_lay 101 = (50, 600) := by decide +kernel
theorem ly_102 : m_lay 102 = (50, 968) := by decide +kernel
theorem ly_103 : m_lay 103 = (50, 136) := by decide +kernel
theorem ly_104 : m_lay 104 = (50, 121) := by decide +kernel
theorem ly_105 : m_lay 105 = (50, 3) := by decide +kernel
theorem ly_106 : m_lay 106 = (50, 10) := by decide +kernel
theorem ly_107 : m_lay 107 = (50, 6) := by decide +kernel
theorem ly_108 : m_lay 108 = (50, 6) := by decide +kernel
theorem ly_109 : m_lay 109 = (50, 6) := by decide +kernel
theorem ly_110 : m_lay 110 = (50, 5120) := by decide +kernel
theorem ly_111 : m_lay 111 = (52, 1024) := by decide +kernel
theorem ly_112 : m_lay 112 = (50, 1024) := by decide +kernel
theorem ly_113 : m_lay 113 = (50, 10) := by decide +kernel
theorem ly_114 : m_lay 114 = (52, 1024) := by decide +kernel
theorem ly_115 : m_lay 115 = (52, 1024) := by decide +kernel
theorem ly_116 : m_lay 116 = (50, 121) := by decide +kernel
theorem ly_117 : m_lay 117 = (50, 61) := by decide +kernel
theorem ly_118 : m_lay 118 = (50, 366) := by decide +kernel
theorem ly_119 : m_lay 119 = (50, 10) := by decide +kernel
theorem ly_120 : m_lay 120 = (50, 6) := by decide +kernel
theorem ly_121 : m_lay 121 = (52, 3) := by decide +kernel
theorem ly_122 : m_lay 122 = (9, 8) := by decide +kernel
theorem ly_123 : m_lay 123 = (51, 600) := by decide +kernel
theorem ly_124 : m_lay 124 = (50, 3) := by decide +kernel
theorem ly_125 : m_lay 125 = (54, 2) := by decide +kernel
theorem ly_126 : m_lay 126 = (4, 11) := by decide +kernel
theorem ly_127 : m_lay 127 = (50, 6) := by decide +kernel
theorem ly_128 : m_lay 128 = (50, 10) := by decide +kernel
theorem ly_129 : m_lay 129 = (50, 10) := by decide +kernel
theorem ly_130 : m_lay 130 = (50, 10) := by decide +kernel
theorem ly_131 : m_lay 131 = (50, 10) := by decide +kernel
theorem ly_132 : m_lay 132 = (50, 10) := by decide +kernel
theorem ly_133 : m_lay 133 = (50, 10) := by decide +kernel
theorem ly_134 : m_lay 134 = (50, 16) := by decide +kernel
theorem ly_135 : m_lay 135 = (4, 11) := by decide +kernel
theorem ly_136 : m_lay 136 = (50, 6) := by decide +kernel
theorem ly_137 : m_lay 137 = (50, 10) := by decide +kernel
theorem ly_138 : m_lay 138 = (50, 10) := by decide +kernel
theorem ly_139 : m_lay 139 = (50, 10) := by decide +kernel
theorem ly_140 : m_lay 140 = (50, 10) := by decide +kernel
theorem ly_141 : m_lay 141 = (50, 10) := by decide +kernel
theorem ly_142 : m_lay 142 = (50, 10) := by decide +kernel
theorem ly_143 : m_lay 143 = (50, 16) := by decide +kernel
theorem ly_144 : m_lay 144 = (55, 2) := by decide +kernel
theorem ly_145 : m_lay 145 = (10, 4) := by decide +kernel
theorem ly_146 : m_lay 146 = (50, 40) := by decide +kernel
theorem ly_147 : m_lay 147 = (50, 40) := by decide +kernel
theorem ly_148 : m_lay 148 = (50, 40) := by decide +kernel
theorem ly_149 : m_lay 149 = (10, 4) := by decide +kernel
theorem ly_150 : m_lay 150 = (50, 40) := by decide +kernel
theorem ly_151 : m_lay 151 = (50, 40) := by decide +kernel
theorem ly_152 : m_lay 152 = (50, 40) := by decide +kernel
theorem ly_153 : m_lay 153 = (56, 2) := by decide +kernel
theorem ly_154 : m_lay 154 = (3, 3) := by decide +kernel
theorem ly_155 : m_lay 155 = (50, 8) := by decide +kernel
theorem ly_156 : m_lay 156 = (50, 8) := by decide +kernel
theorem ly_157 : m_lay 157 = (3, 3) := by decide +kernel
theorem ly_158 : m_lay 158 = (50, 8) := by decide +kernel
theorem ly_159 : m_lay 159 = (50, 8) := by decide +kernel
theorem ly_160 : m_lay 160 = (9, 8) := by decide +kernel
theorem ly_161 : m_lay 161 = (51, 600) := by decide +kernel
theorem ly_162 : m_lay 162 = (50, 3) := by decide +kernel
theorem ly_163 : m_lay 163 = (54, 2) := by decide +kernel
theorem ly_164 : m_lay 164 = (4, 11) := by decide +kernel
theorem ly_165 : m_lay 165 = (50, 6) := by decide +kernel
theorem ly_166 : m_lay 166 = (50, 10) := by decide +kernel
theorem ly_167 : m_lay 167 = (50, 10) := by decide +kernel
theorem ly_168 : m_lay 168 = (50, 10) := by decide +kernel
theorem ly_169 : m_lay 169 = (50, 10) := by decide +kernel
theorem ly_170 : m_lay 170 = (50, 10) := by decide +kernel
theorem ly_171 : m_lay 171 = (50, 10) := by decide +kernel
theorem ly_172 : m_lay 172 = (50, 16) := by decide +kernel
theorem ly_173 : m_lay 173 = (4, 11) := by decide +kernel
theorem ly_174 : m_lay 174 = (50, 6) := by decide +kernel
theorem ly_175 : m_lay 175 = (50, 10) := by decide +kernel
theorem ly_176 : m_lay 176 = (50, 10) := by decide +kernel
theorem ly_177 : m_lay 177 = (50, 10) := by decide +kernel
theorem ly_178 : m_lay 178 = (50, 10) := by decide +kernel
theorem ly_179 : m_lay 179 = (50, 10) := by decide +kernel
theorem ly_180 : m_lay 180 = (50, 10) := by decide +kernel
theorem ly_181 : m_lay 181 = (50, 16) := by decide +kernel
theorem ly_182 : m_lay 182 = (55, 2) := by decide +kernel
theorem ly_183 : m_lay 183 = (10, 4) := by decide +kernel
theorem ly_184 : m_lay 184 = (50, 40) := by decide +kernel
theorem ly_185 : m_lay 185 = (50, 40) := by decide +kernel
theorem ly_186 : m_lay 186 = (50, 40) := by decide +kernel
theorem ly_187 : m_lay 187 = (10, 4) := by decide +kernel
theorem ly_188 : m_lay 188 = (50, 40) := by decide +kernel
theorem ly_189 : m_lay 189 = (50, 40) := by decide +kernel
theorem ly_190 : m_lay 190 = (50, 40) := by decide +kernel
theorem ly_191 : m_lay 191 = (56, 2) := by decide +kernel
theorem ly_192 : m_lay 192 = (3, 3) := by decide +kernel
theorem ly_193 : m_lay 193 = (50, 8) := by decide +kernel
theorem ly_194 : m_lay 194 = (50, 8) := by decide +kernel
theorem ly_195 : m_lay 195 = (3, 3) := by decide +kernel
theorem ly_196 : m_lay 196 = (50, 8) := by decide +kernel
theorem ly_197 : m_lay 197 = (50, 8) := by decide +kernel
theorem ly_198 : m_lay 198 = (9, 8) := by decide +kernel
theorem ly_199 : m_lay 199 = (51, 600) := by decide +kernel
theorem ly_200 : m_lay 200 = (50, 3) := by decide +kernel
theorem ly_201 : m_lay 201 = (54, 2) := by decide +kernel
theorem ly_202 : m_lay 202 = (4, 11) := by decide +kernel
theorem ly_203 : m_lay 203 = (50, 6) := by decide +kernel
theorem ly_204 : m_lay 204 = (50, 10) := by decide +kernel
theorem ly_205 : m_lay 205 = (50, 10) := by decide +kernel
theorem ly_206 : m_lay 206 = (50, 10) := by decide +kernel
theorem ly_207 : m_lay 207 = (50, 10) := by decide +kernel
theorem ly_208 : m_lay 208 = (50, 10) := by decide +kernel
theorem ly_209 : m_lay 209 = (50, 10) := by decide +kernel
theorem ly_210 : m_lay 210 = (50, 16) := by decide +kernel
theorem ly_211 : m_lay 211 = (4, 11) := by decide +kernel
theorem ly_212 : m_lay 212 = (50, 6) := by decide +kernel
theorem ly_213 : m_lay 213 = (50, 10) := by decide +kernel
theorem ly_214 : m_lay 214 = (50, 10) := by decide +kernel
theorem ly_215 : m_lay 215 = (50, 10) := by decide +kernel
theorem ly_216 : m_lay 216 = (50, 10) := by decide +kernel
theorem ly_217 : m_lay 217 = (50, 10) := by decide +kernel
theorem ly_218 : m_lay 218 = (50, 10) := by decide +kernel
theorem ly_219 : m_lay 219 = (50, 16) := by decide +kernel
theorem ly_220 : m_lay 220 = (55, 2) := by decide +kernel
theorem ly_221 : m_lay 221 = (10, 4) := by decide +kernel
theorem ly_222 : m_lay 222 = (50, 40) := by decide +kernel
theorem ly_223 : m_lay 223 = (50, 40) := by decide +kernel
theorem ly_224 : m_lay 224 = (50, 40) := by decide +kernel
theorem ly_225 : m_lay 225 = (10, 4) := by decide +kernel
theorem ly_226 : m_lay 226 = (50, 40) := by decide +kernel
theorem ly_227 : m_lay 227 = (50, 40) := by decide +kernel
theorem ly_228 : m_lay 228 = (50, 40) := by decide +kernel
theorem ly_229 : m_lay 229 = (56, 2) := by decide +kernel
theorem ly_230 : m_lay 230 = (3, 3) := by decide +kernel
theorem ly_231 : m_lay 231 = (50, 8) := by decide +kernel
theorem ly_232 : m_lay 232 = (50, 8) := by decide +kernel
theorem ly_233 : m_lay 233 = (3, 3) := by decide +kernel
theorem ly_234 : m_lay 234 = (50, 8) := by decide +kernel
theorem ly_235 : m_lay 235 = (50, 8) := by decide +kernel
