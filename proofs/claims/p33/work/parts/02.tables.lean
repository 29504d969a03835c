/-! tables of the machine below: which entry of which owner says what; by program (wip/gen_tables.py), held by the words of the claim -/
/-- the words of the claim that hold in every later state too -/
def a_tb : List Jvm.Cond := lw_tbl.filter goodWord
theorem a_mem_p {w : Jvm.Cond} (h : w ∈ k2_sels lw_privs) (hg : goodWord w = true) : w ∈ a_tb := List.mem_filter.mpr ⟨List.mem_append_left _ h, hg⟩
theorem a_mem_t {w : Jvm.Cond} (h : w ∈ tables_1) (hg : goodWord w = true) : w ∈ a_tb := List.mem_filter.mpr ⟨List.mem_append_right _ h, hg⟩
theorem a_tb_sub {w : Jvm.Cond} (h : w ∈ a_tb) : w ∈ lw_tbl := (List.mem_filter.mp h).1
theorem a_tb_good {w : Jvm.Cond} (h : w ∈ a_tb) : goodWord w = true := (List.mem_filter.mp h).2
theorem a_seg1 {w : Jvm.Cond} (h : w ∈ tables_1_1) : w ∈ tables_1 := show w ∈ tables_1_1 ++ (tables_1_2 ++ (tables_1_3 ++ (tables_1_4 ++ (tables_1_5 ++ (tables_1_6 ++ (tables_1_7 ++ (tables_1_8))))))) from List.mem_append_left _ h
theorem a_t1 {w : Jvm.Cond} (h : w ∈ tables_1_1) (hg : goodWord w = true) : w ∈ a_tb := a_mem_t (show w ∈ tables_1_1 ++ (tables_1_2 ++ (tables_1_3 ++ (tables_1_4 ++ (tables_1_5 ++ (tables_1_6 ++ (tables_1_7 ++ (tables_1_8))))))) from List.mem_append_left _ h) hg
theorem a_seg2 {w : Jvm.Cond} (h : w ∈ tables_1_2) : w ∈ tables_1 := show w ∈ tables_1_1 ++ (tables_1_2 ++ (tables_1_3 ++ (tables_1_4 ++ (tables_1_5 ++ (tables_1_6 ++ (tables_1_7 ++ (tables_1_8))))))) from List.mem_append_right _ (List.mem_append_left _ h)
theorem a_t2 {w : Jvm.Cond} (h : w ∈ tables_1_2) (hg : goodWord w = true) : w ∈ a_tb := a_mem_t (show w ∈ tables_1_1 ++ (tables_1_2 ++ (tables_1_3 ++ (tables_1_4 ++ (tables_1_5 ++ (tables_1_6 ++ (tables_1_7 ++ (tables_1_8))))))) from List.mem_append_right _ (List.mem_append_left _ h)) hg
theorem a_seg3 {w : Jvm.Cond} (h : w ∈ tables_1_3) : w ∈ tables_1 := show w ∈ tables_1_1 ++ (tables_1_2 ++ (tables_1_3 ++ (tables_1_4 ++ (tables_1_5 ++ (tables_1_6 ++ (tables_1_7 ++ (tables_1_8))))))) from List.mem_append_right _ (List.mem_append_right _ (List.mem_append_left _ h))
theorem a_t3 {w : Jvm.Cond} (h : w ∈ tables_1_3) (hg : goodWord w = true) : w ∈ a_tb := a_mem_t (show w ∈ tables_1_1 ++ (tables_1_2 ++ (tables_1_3 ++ (tables_1_4 ++ (tables_1_5 ++ (tables_1_6 ++ (tables_1_7 ++ (tables_1_8))))))) from List.mem_append_right _ (List.mem_append_right _ (List.mem_append_left _ h))) hg
theorem a_seg4 {w : Jvm.Cond} (h : w ∈ tables_1_4) : w ∈ tables_1 := show w ∈ tables_1_1 ++ (tables_1_2 ++ (tables_1_3 ++ (tables_1_4 ++ (tables_1_5 ++ (tables_1_6 ++ (tables_1_7 ++ (tables_1_8))))))) from List.mem_append_right _ (List.mem_append_right _ (List.mem_append_right _ (List.mem_append_left _ h)))
theorem a_t4 {w : Jvm.Cond} (h : w ∈ tables_1_4) (hg : goodWord w = true) : w ∈ a_tb := a_mem_t (show w ∈ tables_1_1 ++ (tables_1_2 ++ (tables_1_3 ++ (tables_1_4 ++ (tables_1_5 ++ (tables_1_6 ++ (tables_1_7 ++ (tables_1_8))))))) from List.mem_append_right _ (List.mem_append_right _ (List.mem_append_right _ (List.mem_append_left _ h)))) hg
theorem a_seg5 {w : Jvm.Cond} (h : w ∈ tables_1_5) : w ∈ tables_1 := show w ∈ tables_1_1 ++ (tables_1_2 ++ (tables_1_3 ++ (tables_1_4 ++ (tables_1_5 ++ (tables_1_6 ++ (tables_1_7 ++ (tables_1_8))))))) from List.mem_append_right _ (List.mem_append_right _ (List.mem_append_right _ (List.mem_append_right _ (List.mem_append_left _ h))))
theorem a_t5 {w : Jvm.Cond} (h : w ∈ tables_1_5) (hg : goodWord w = true) : w ∈ a_tb := a_mem_t (show w ∈ tables_1_1 ++ (tables_1_2 ++ (tables_1_3 ++ (tables_1_4 ++ (tables_1_5 ++ (tables_1_6 ++ (tables_1_7 ++ (tables_1_8))))))) from List.mem_append_right _ (List.mem_append_right _ (List.mem_append_right _ (List.mem_append_right _ (List.mem_append_left _ h))))) hg
theorem a_seg6 {w : Jvm.Cond} (h : w ∈ tables_1_6) : w ∈ tables_1 := show w ∈ tables_1_1 ++ (tables_1_2 ++ (tables_1_3 ++ (tables_1_4 ++ (tables_1_5 ++ (tables_1_6 ++ (tables_1_7 ++ (tables_1_8))))))) from List.mem_append_right _ (List.mem_append_right _ (List.mem_append_right _ (List.mem_append_right _ (List.mem_append_right _ (List.mem_append_left _ h)))))
theorem a_t6 {w : Jvm.Cond} (h : w ∈ tables_1_6) (hg : goodWord w = true) : w ∈ a_tb := a_mem_t (show w ∈ tables_1_1 ++ (tables_1_2 ++ (tables_1_3 ++ (tables_1_4 ++ (tables_1_5 ++ (tables_1_6 ++ (tables_1_7 ++ (tables_1_8))))))) from List.mem_append_right _ (List.mem_append_right _ (List.mem_append_right _ (List.mem_append_right _ (List.mem_append_right _ (List.mem_append_left _ h)))))) hg
theorem a_seg7 {w : Jvm.Cond} (h : w ∈ tables_1_7) : w ∈ tables_1 := show w ∈ tables_1_1 ++ (tables_1_2 ++ (tables_1_3 ++ (tables_1_4 ++ (tables_1_5 ++ (tables_1_6 ++ (tables_1_7 ++ (tables_1_8))))))) from List.mem_append_right _ (List.mem_append_right _ (List.mem_append_right _ (List.mem_append_right _ (List.mem_append_right _ (List.mem_append_right _ (List.mem_append_left _ h))))))
theorem a_t7 {w : Jvm.Cond} (h : w ∈ tables_1_7) (hg : goodWord w = true) : w ∈ a_tb := a_mem_t (show w ∈ tables_1_1 ++ (tables_1_2 ++ (tables_1_3 ++ (tables_1_4 ++ (tables_1_5 ++ (tables_1_6 ++ (tables_1_7 ++ (tables_1_8))))))) from List.mem_append_right _ (List.mem_append_right _ (List.mem_append_right _ (List.mem_append_right _ (List.mem_append_right _ (List.mem_append_right _ (List.mem_append_left _ h))))))) hg
theorem a_seg8 {w : Jvm.Cond} (h : w ∈ tables_1_8) : w ∈ tables_1 := show w ∈ tables_1_1 ++ (tables_1_2 ++ (tables_1_3 ++ (tables_1_4 ++ (tables_1_5 ++ (tables_1_6 ++ (tables_1_7 ++ (tables_1_8))))))) from List.mem_append_right _ (List.mem_append_right _ (List.mem_append_right _ (List.mem_append_right _ (List.mem_append_right _ (List.mem_append_right _ (List.mem_append_right _ (h)))))))
theorem a_t8 {w : Jvm.Cond} (h : w ∈ tables_1_8) (hg : goodWord w = true) : w ∈ a_tb := a_mem_t (show w ∈ tables_1_1 ++ (tables_1_2 ++ (tables_1_3 ++ (tables_1_4 ++ (tables_1_5 ++ (tables_1_6 ++ (tables_1_7 ++ (tables_1_8))))))) from List.mem_append_right _ (List.mem_append_right _ (List.mem_append_right _ (List.mem_append_right _ (List.mem_append_right _ (List.mem_append_right _ (List.mem_append_right _ (h)))))))) hg
def a_owns : List String := [RX0, RX1, RX2, RX3, RX4, RX5, RX6, RX7, RX8, RX9, RX10, RX11, RX12, RL, RJ6, RJ9, RJ10]
def a_own (o : Nat) : String := a_owns.getD o ""
/-- 0 int, 1 boolean, 2 a reference -/
def a_ftys : List (List Nat) := [[0, 0, 0, 0, 0, 0, 0, 0, 0, 0, 0, 0, 0, 0, 0, 1, 1], [2, 2, 2, 2, 2, 0, 0], [0, 0, 2, 2, 2, 2, 0], [2, 2, 2, 2, 2, 2, 2, 2, 0, 0], [2, 2, 2, 2, 2, 2, 2, 0], [2, 2, 2, 2, 0, 0, 0], [2, 2, 2, 2, 2, 0], [2, 2, 2, 2, 2, 2, 0, 0, 0], [2, 2, 2, 0], [2, 2, 0, 0, 0], [0, 0, 2, 0, 1], [2, 2, 2, 2, 2, 2, 2, 2, 2, 2, 0, 2], [0, 2, 0, 2, 2, 2, 0, 2, 2, 0, 0, 0, 1, 0, 0, 0, 0, 0, 2, 2, 2, 2, 2, 2, 2, 2, 2, 2, 2, 2, 2, 2, 2, 2, 2, 0, 2, 2, 2, 2, 0, 0, 2, 2, 2, 2, 1, 0, 0, 0, 1, 0, 2, 2, 0, 2, 0, 2, 2, 2, 2, 0, 2, 2, 0, 2, 0, 2, 2, 2, 2, 2, 2, 2, 0, 2, 2, 2, 2, 0]]
def a_ffin : List (List Bool) := [[true, true, true, true, false, false, false, false, false, false, false, false, false, false, false, false, false], [true, true, true, true, true, false, false], [true, true, true, true, true, false, false], [true, true, true, true, true, true, true, true, false, false], [true, true, true, true, true, true, true, false], [true, true, true, true, false, false, false], [true, true, true, true, true, false], [true, true, true, true, true, true, false, false, false], [true, true, true, false], [true, true, false, false, false], [true, true, true, false, false], [true, true, true, true, true, true, true, true, true, true, false, false], [false, true, false, true, true, true, false, true, true, false, false, false, false, false, false, false, false, false, true, true, true, true, true, true, true, true, true, true, true, true, true, true, true, true, true, false, true, true, true, true, false, false, true, true, true, true, false, false, false, false, false, false, true, true, false, true, false, true, true, true, true, false, true, true, false, true, false, true, true, true, true, true, true, true, false, true, true, true, true, false]]
def a_fty (c k : Nat) : Nat := (a_ftys.getD c []).getD k 3
def a_fin (c k : Nat) : Bool := (a_ffin.getD c []).getD k false
def a_N (c : Nat) : Nat := (a_ftys.getD c []).length
/-- a method: its owner, its name, its code, its locals, what it returns, how many parameters, whether it is a constructor -/
abbrev a_M : Type := Nat × MethodName × ByteArray × Nat × Option FieldType × Nat × Bool
def a_m0 : a_M := (11, ({ cls := "BeamHall", name := "<init>", desc := "()V" } : MethodName), prog_1_method_1_code, 1, (Option.none : Option Jvm.ClassFile.FieldType), 0, true)
def a_m1 : a_M := (1, ({ cls := "BeamHall$Beam", name := "<init>", desc := "()V" } : MethodName), prog_3_method_1_code, 1, (Option.none : Option Jvm.ClassFile.FieldType), 0, true)
def a_m2 : a_M := (8, ({ cls := "BeamHall$Rules", name := "<init>", desc := "()V" } : MethodName), prog_10_method_1_code, 1, (Option.none : Option Jvm.ClassFile.FieldType), 0, true)
def a_m3 : a_M := (9, ({ cls := "BeamHall$Tape", name := "<init>", desc := "()V" } : MethodName), prog_11_method_1_code, 1, (Option.none : Option Jvm.ClassFile.FieldType), 0, true)
def a_m4 : a_M := (5, ({ cls := "BeamHall$Hall", name := "<init>", desc := "(LBeamHall$Beam;LBeamHall$Rules;)V" } : MethodName), prog_7_method_1_code, 3, (Option.none : Option Jvm.ClassFile.FieldType), 2, true)
def a_m5 : a_M := (6, ({ cls := "BeamHall$Panel", name := "<init>", desc := "(LBeamHall$Hall;)V" } : MethodName), prog_8_method_1_code, 3, (Option.none : Option Jvm.ClassFile.FieldType), 1, true)
def a_m6 : a_M := (7, ({ cls := "BeamHall$Planner", name := "<init>", desc := "(LBeamHall$Hall;LBeamHall$Beam;)V" } : MethodName), prog_9_method_1_code, 3, (Option.none : Option Jvm.ClassFile.FieldType), 2, true)
def a_m7 : a_M := (3, ({ cls := "BeamHall$Best", name := "<init>", desc := "(LBeamHall$Hall;)V" } : MethodName), prog_5_method_1_code, 2, (Option.none : Option Jvm.ClassFile.FieldType), 1, true)
def a_m8 : a_M := (4, ({ cls := "BeamHall$Circle", name := "<init>", desc := "(LBeamHall$Hall;)V" } : MethodName), prog_6_method_1_code, 2, (Option.none : Option Jvm.ClassFile.FieldType), 1, true)
def a_m9 : a_M := (11, ({ cls := "BeamHall", name := "hours", desc := "(I)I" } : MethodName), prog_1_method_2_code, 2, (Option.some FieldType.int), 1, false)
def a_m10 : a_M := (11, ({ cls := "BeamHall", name := "refuse", desc := "(I)I" } : MethodName), prog_1_method_39_code, 2, (Option.some FieldType.int), 1, false)
def a_m11 : a_M := (11, ({ cls := "BeamHall", name := "mode", desc := "(III)I" } : MethodName), prog_1_method_3_code, 4, (Option.some FieldType.int), 3, false)
def a_m12 : a_M := (11, ({ cls := "BeamHall", name := "areShifts", desc := "(II)Z" } : MethodName), prog_1_method_42_code, 2, (Option.some FieldType.boolean), 2, false)
def a_m13 : a_M := (11, ({ cls := "BeamHall", name := "isShift", desc := "(I)Z" } : MethodName), prog_1_method_41_code, 1, (Option.some FieldType.boolean), 1, false)
def a_m14 : a_M := (1, ({ cls := "BeamHall$Beam", name := "change", desc := "(III)I" } : MethodName), prog_3_method_3_code, 6, (Option.some FieldType.int), 3, false)
def a_m15 : a_M := (11, ({ cls := "BeamHall", name := "trip", desc := "(II)I" } : MethodName), prog_1_method_4_code, 3, (Option.some FieldType.int), 2, false)
def a_m16 : a_M := (1, ({ cls := "BeamHall$Beam", name := "found", desc := "(II)I" } : MethodName), prog_3_method_4_code, 4, (Option.some FieldType.int), 2, false)
def a_m17 : a_M := (11, ({ cls := "BeamHall", name := "shiftOf", desc := "(III)I" } : MethodName), prog_1_method_5_code, 4, (Option.some FieldType.int), 3, false)
def a_m18 : a_M := (1, ({ cls := "BeamHall$Beam", name := "lostAsKnown", desc := "(II)I" } : MethodName), prog_3_method_5_code, 5, (Option.some FieldType.int), 2, false)
def a_m19 : a_M := (1, ({ cls := "BeamHall$Beam", name := "isLost", desc := "(II)Z" } : MethodName), prog_3_method_6_code, 4, (Option.some FieldType.boolean), 2, false)
def a_m20 : a_M := (11, ({ cls := "BeamHall", name := "bench", desc := "(II)I" } : MethodName), prog_1_method_6_code, 3, (Option.some FieldType.int), 2, false)
def a_m21 : a_M := (5, ({ cls := "BeamHall$Hall", name := "addBench", desc := "(II)I" } : MethodName), prog_7_method_4_code, 3, (Option.some FieldType.int), 2, false)
def a_m22 : a_M := (2, ({ cls := "BeamHall$Bench", name := "<init>", desc := "(II)V" } : MethodName), prog_4_method_1_code, 4, (Option.none : Option Jvm.ClassFile.FieldType), 2, true)
def a_m23 : a_M := (11, ({ cls := "BeamHall", name := "set", desc := "(II)I" } : MethodName), prog_1_method_7_code, 4, (Option.some FieldType.int), 2, false)
def a_m24 : a_M := (5, ({ cls := "BeamHall$Hall", name := "changeRest", desc := "(I)I" } : MethodName), prog_7_method_6_code, 3, (Option.some FieldType.int), 1, false)
def a_m25 : a_M := (7, ({ cls := "BeamHall$Planner", name := "changeShare", desc := "(I)I" } : MethodName), prog_9_method_2_code, 3, (Option.some FieldType.int), 1, false)
def a_m26 : a_M := (6, ({ cls := "BeamHall$Panel", name := "changeScaled", desc := "(I)I" } : MethodName), prog_8_method_7_code, 3, (Option.some FieldType.int), 1, false)
def a_m27 : a_M := (6, ({ cls := "BeamHall$Panel", name := "reckonMarks", desc := "()V" } : MethodName), prog_8_method_8_code, 3, (Option.none : Option Jvm.ClassFile.FieldType), 0, false)
def a_m28 : a_M := (6, ({ cls := "BeamHall$Panel", name := "habitOf", desc := "(I)I" } : MethodName), prog_8_method_10_code, 6, (Option.some FieldType.int), 1, false)
def a_m29 : a_M := (6, ({ cls := "BeamHall$Panel", name := "areTwoMarks", desc := "(III)Z" } : MethodName), prog_8_method_12_code, 4, (Option.some FieldType.boolean), 3, false)
def a_m30 : a_M := (6, ({ cls := "BeamHall$Panel", name := "markBy", desc := "(II)I" } : MethodName), prog_8_method_5_code, 4, (Option.some FieldType.int), 2, false)
def a_m31 : a_M := (15, ({ cls := "java/lang/Math", name := "floorDiv", desc := "(II)I" } : MethodName), prog_16_method_47_code, 3, (Option.some FieldType.int), 2, false)
def a_m32 : a_M := (5, ({ cls := "BeamHall$Hall", name := "askAt", desc := "(I)LBeamHall$Ask;" } : MethodName), prog_7_method_2_code, 2, (Option.some (FieldType.object "BeamHall$Ask")), 1, false)
def a_m33 : a_M := (6, ({ cls := "BeamHall$Panel", name := "joinedMark", desc := "(I)I" } : MethodName), prog_8_method_9_code, 5, (Option.some FieldType.int), 1, false)
def a_m34 : a_M := (15, ({ cls := "java/lang/Math", name := "min", desc := "(II)I" } : MethodName), prog_16_method_69_code, 2, (Option.some FieldType.int), 2, false)
def a_m35 : a_M := (15, ({ cls := "java/lang/Math", name := "max", desc := "(II)I" } : MethodName), prog_16_method_65_code, 2, (Option.some FieldType.int), 2, false)
def a_m36 : a_M := (11, ({ cls := "BeamHall", name := "draft", desc := "(IIII)I" } : MethodName), prog_1_method_8_code, 5, (Option.some FieldType.int), 4, false)
def a_m37 : a_M := (0, ({ cls := "BeamHall$Ask", name := "<init>", desc := "(IIII)V" } : MethodName), prog_2_method_1_code, 5, (Option.none : Option Jvm.ClassFile.FieldType), 4, true)
def a_m38 : a_M := (11, ({ cls := "BeamHall", name := "ask", desc := "(IIIIIII)I" } : MethodName), prog_1_method_9_code, 9, (Option.some FieldType.int), 7, false)
def a_m39 : a_M := (11, ({ cls := "BeamHall", name := "daysBelow", desc := "(III)Z" } : MethodName), prog_1_method_45_code, 3, (Option.some FieldType.boolean), 3, false)
def a_m40 : a_M := (11, ({ cls := "BeamHall", name := "daysAbove", desc := "(III)Z" } : MethodName), prog_1_method_46_code, 3, (Option.some FieldType.boolean), 3, false)
def a_m41 : a_M := (0, ({ cls := "BeamHall$Ask", name := "want", desc := "(IIII)V" } : MethodName), prog_2_method_2_code, 5, (Option.none : Option Jvm.ClassFile.FieldType), 4, false)
def a_m42 : a_M := (0, ({ cls := "BeamHall$Ask", name := "bind", desc := "(III)V" } : MethodName), prog_2_method_3_code, 4, (Option.none : Option Jvm.ClassFile.FieldType), 3, false)
def a_m43 : a_M := (5, ({ cls := "BeamHall$Hall", name := "addAsk", desc := "(LBeamHall$Ask;)I" } : MethodName), prog_7_method_5_code, 2, (Option.some FieldType.int), 1, false)
def a_m44 : a_M := (11, ({ cls := "BeamHall", name := "withdraw", desc := "(I)I" } : MethodName), prog_1_method_10_code, 3, (Option.some FieldType.int), 1, false)
def a_m45 : a_M := (5, ({ cls := "BeamHall$Hall", name := "clear", desc := "(LBeamHall$Ask;)V" } : MethodName), prog_7_method_27_code, 3, (Option.none : Option Jvm.ClassFile.FieldType), 1, false)
def a_m46 : a_M := (5, ({ cls := "BeamHall$Hall", name := "benchAt", desc := "(I)LBeamHall$Bench;" } : MethodName), prog_7_method_3_code, 2, (Option.some (FieldType.object "BeamHall$Bench")), 1, false)
def a_m47 : a_M := (2, ({ cls := "BeamHall$Bench", name := "remember", desc := "(LBeamHall$Ask;I)V" } : MethodName), prog_4_method_7_code, 5, (Option.none : Option Jvm.ClassFile.FieldType), 2, false)
def a_m48 : a_M := (2, ({ cls := "BeamHall$Bench", name := "hasRoomForPast", desc := "()Z" } : MethodName), prog_4_method_8_code, 2, (Option.some FieldType.boolean), 0, false)
def a_m49 : a_M := (0, ({ cls := "BeamHall$Ask", name := "last", desc := "()I" } : MethodName), prog_2_method_6_code, 1, (Option.some FieldType.int), 0, false)
def a_m50 : a_M := (2, ({ cls := "BeamHall$Bench", name := "date", desc := "(III)V" } : MethodName), prog_4_method_5_code, 5, (Option.none : Option Jvm.ClassFile.FieldType), 3, false)
def a_m51 : a_M := (5, ({ cls := "BeamHall$Hall", name := "lift", desc := "(LBeamHall$Ask;)V" } : MethodName), prog_7_method_30_code, 4, (Option.none : Option Jvm.ClassFile.FieldType), 1, false)
def a_m52 : a_M := (2, ({ cls := "BeamHall$Bench", name := "settle", desc := "(III)V" } : MethodName), prog_4_method_4_code, 4, (Option.none : Option Jvm.ClassFile.FieldType), 3, false)
def a_m53 : a_M := (11, ({ cls := "BeamHall", name := "askOf", desc := "(II)I" } : MethodName), prog_1_method_11_code, 4, (Option.some FieldType.int), 2, false)
def a_m54 : a_M := (5, ({ cls := "BeamHall$Hall", name := "loss", desc := "(LBeamHall$Ask;)I" } : MethodName), prog_7_method_11_code, 2, (Option.some FieldType.int), 1, false)
def a_m55 : a_M := (0, ({ cls := "BeamHall$Ask", name := "isPlaced", desc := "()Z" } : MethodName), prog_2_method_5_code, 1, (Option.some FieldType.boolean), 0, false)
def a_m56 : a_M := (1, ({ cls := "BeamHall$Beam", name := "lostFrom", desc := "(II)I" } : MethodName), prog_3_method_7_code, 5, (Option.some FieldType.int), 2, false)
def a_m57 : a_M := (14, ({ cls := "java/lang/Integer", name := "bitCount", desc := "(I)I" } : MethodName), prog_15_method_49_code, 1, (Option.some FieldType.int), 1, false)
def a_m58 : a_M := (5, ({ cls := "BeamHall$Hall", name := "owed", desc := "(LBeamHall$Ask;)I" } : MethodName), prog_7_method_12_code, 2, (Option.some FieldType.int), 1, false)
def a_m59 : a_M := (8, ({ cls := "BeamHall$Rules", name := "owed", desc := "(LBeamHall$Ask;I)I" } : MethodName), prog_10_method_9_code, 4, (Option.some FieldType.int), 2, false)
def a_m60 : a_M := (8, ({ cls := "BeamHall$Rules", name := "counting", desc := "(I)LBeamHall$Text;" } : MethodName), prog_10_method_8_code, 5, (Option.some (FieldType.object "BeamHall$Text")), 1, false)
def a_m61 : a_M := (8, ({ cls := "BeamHall$Rules", name := "textAt", desc := "(I)LBeamHall$Text;" } : MethodName), prog_10_method_2_code, 2, (Option.some (FieldType.object "BeamHall$Text")), 1, false)
def a_m62 : a_M := (10, ({ cls := "BeamHall$Text", name := "isInForce", desc := "(I)Z" } : MethodName), prog_12_method_2_code, 2, (Option.some FieldType.boolean), 1, false)
def a_m63 : a_M := (8, ({ cls := "BeamHall$Rules", name := "learn", desc := "(LBeamHall$Ask;III)V" } : MethodName), prog_10_method_4_code, 5, (Option.none : Option Jvm.ClassFile.FieldType), 4, false)
def a_m64 : a_M := (10, ({ cls := "BeamHall$Text", name := "value", desc := "([I[I)I" } : MethodName), prog_12_method_3_code, 7, (Option.some FieldType.int), 2, false)
def a_m65 : a_M := (10, ({ cls := "BeamHall$Text", name := "joined", desc := "(III)I" } : MethodName), prog_12_method_4_code, 3, (Option.some FieldType.int), 3, false)
def a_m66 : a_M := (11, ({ cls := "BeamHall", name := "feed", desc := "(IJ)I" } : MethodName), prog_1_method_12_code, 4, (Option.some FieldType.int), 2, false)
def a_m67 : a_M := (9, ({ cls := "BeamHall$Tape", name := "append", desc := "(IJ)I" } : MethodName), prog_11_method_2_code, 5, (Option.some FieldType.int), 2, false)
def a_m68 : a_M := (11, ({ cls := "BeamHall", name := "text", desc := "(I)I" } : MethodName), prog_1_method_13_code, 4, (Option.some FieldType.int), 1, false)
def a_m69 : a_M := (9, ({ cls := "BeamHall$Tape", name := "read", desc := "()Z" } : MethodName), prog_11_method_5_code, 3, (Option.some FieldType.boolean), 0, false)
def a_m70 : a_M := (9, ({ cls := "BeamHall$Tape", name := "next", desc := "()I" } : MethodName), prog_11_method_6_code, 1, (Option.some FieldType.int), 0, false)
def a_m71 : a_M := (9, ({ cls := "BeamHall$Tape", name := "skip", desc := "(I)Z" } : MethodName), prog_11_method_7_code, 2, (Option.some FieldType.boolean), 1, false)
def a_m72 : a_M := (9, ({ cls := "BeamHall$Tape", name := "readSum", desc := "()Z" } : MethodName), prog_11_method_12_code, 4, (Option.some FieldType.boolean), 0, false)
def a_m73 : a_M := (9, ({ cls := "BeamHall$Tape", name := "readUnit", desc := "()Z" } : MethodName), prog_11_method_14_code, 4, (Option.some FieldType.boolean), 0, false)
def a_m74 : a_M := (9, ({ cls := "BeamHall$Tape", name := "factNumber", desc := "(I)I" } : MethodName), prog_11_method_15_code, 1, (Option.some FieldType.int), 1, false)
def a_m75 : a_M := (9, ({ cls := "BeamHall$Tape", name := "write", desc := "(I)V" } : MethodName), prog_11_method_8_code, 2, (Option.none : Option Jvm.ClassFile.FieldType), 1, false)
def a_m76 : a_M := (9, ({ cls := "BeamHall$Tape", name := "signOf", desc := "(IIIII)I" } : MethodName), prog_11_method_13_code, 5, (Option.some FieldType.int), 5, false)
def a_m77 : a_M := (9, ({ cls := "BeamHall$Tape", name := "readJoined", desc := "(II)Z" } : MethodName), prog_11_method_9_code, 5, (Option.some FieldType.boolean), 2, false)
def a_m78 : a_M := (9, ({ cls := "BeamHall$Tape", name := "readPart", desc := "(I)Z" } : MethodName), prog_11_method_10_code, 3, (Option.some FieldType.boolean), 1, false)
def a_m79 : a_M := (9, ({ cls := "BeamHall$Tape", name := "readComparison", desc := "()Z" } : MethodName), prog_11_method_11_code, 3, (Option.some FieldType.boolean), 0, false)
def a_m80 : a_M := (9, ({ cls := "BeamHall$Tape", name := "letter", desc := "()I" } : MethodName), prog_11_method_3_code, 1, (Option.some FieldType.int), 0, false)
def a_m81 : a_M := (9, ({ cls := "BeamHall$Tape", name := "written", desc := "()[I" } : MethodName), prog_11_method_4_code, 2, (Option.some (FieldType.array FieldType.int)), 0, false)
def a_m82 : a_M := (8, ({ cls := "BeamHall$Rules", name := "add", desc := "(II[I)I" } : MethodName), prog_10_method_3_code, 4, (Option.some FieldType.int), 3, false)
def a_m83 : a_M := (10, ({ cls := "BeamHall$Text", name := "<init>", desc := "(II[I)V" } : MethodName), prog_12_method_1_code, 4, (Option.none : Option Jvm.ClassFile.FieldType), 3, true)
def a_m84 : a_M := (11, ({ cls := "BeamHall", name := "strike", desc := "(II)I" } : MethodName), prog_1_method_14_code, 4, (Option.some FieldType.int), 2, false)
def a_m85 : a_M := (11, ({ cls := "BeamHall", name := "barred", desc := "(IIII)I" } : MethodName), prog_1_method_15_code, 6, (Option.some FieldType.int), 4, false)
def a_m86 : a_M := (8, ({ cls := "BeamHall$Rules", name := "leastThatHolds", desc := "(ILBeamHall$Ask;II)I" } : MethodName), prog_10_method_5_code, 7, (Option.some FieldType.int), 4, false)
def a_m87 : a_M := (8, ({ cls := "BeamHall$Rules", name := "quarrel", desc := "(LBeamHall$Ask;IIZ)I" } : MethodName), prog_10_method_6_code, 7, (Option.some FieldType.int), 4, false)
def a_m88 : a_M := (8, ({ cls := "BeamHall$Rules", name := "quarrelsWith", desc := "(II)I" } : MethodName), prog_10_method_7_code, 7, (Option.some FieldType.int), 2, false)
def a_m89 : a_M := (11, ({ cls := "BeamHall", name := "kin", desc := "(II)I" } : MethodName), prog_1_method_16_code, 3, (Option.some FieldType.int), 2, false)
def a_m90 : a_M := (11, ({ cls := "BeamHall", name := "isReader", desc := "(I)Z" } : MethodName), prog_1_method_43_code, 1, (Option.some FieldType.boolean), 1, false)
def a_m91 : a_M := (6, ({ cls := "BeamHall$Panel", name := "tellKin", desc := "(II)Z" } : MethodName), prog_8_method_2_code, 4, (Option.some FieldType.boolean), 2, false)
def a_m92 : a_M := (11, ({ cls := "BeamHall", name := "mark", desc := "(III)I" } : MethodName), prog_1_method_17_code, 5, (Option.some FieldType.int), 3, false)
def a_m93 : a_M := (6, ({ cls := "BeamHall$Panel", name := "isTold", desc := "(II)Z" } : MethodName), prog_8_method_3_code, 3, (Option.some FieldType.boolean), 2, false)
def a_m94 : a_M := (6, ({ cls := "BeamHall$Panel", name := "toldOf", desc := "(I)I" } : MethodName), prog_8_method_4_code, 4, (Option.some FieldType.int), 1, false)
def a_m95 : a_M := (6, ({ cls := "BeamHall$Panel", name := "tell", desc := "(ILBeamHall$Ask;I)Z" } : MethodName), prog_8_method_6_code, 5, (Option.some FieldType.boolean), 3, false)
def a_m96 : a_M := (11, ({ cls := "BeamHall", name := "markOf", desc := "(I)I" } : MethodName), prog_1_method_18_code, 3, (Option.some FieldType.int), 1, false)
def a_m97 : a_M := (11, ({ cls := "BeamHall", name := "habit", desc := "(II)I" } : MethodName), prog_1_method_19_code, 3, (Option.some FieldType.int), 2, false)
def a_m98 : a_M := (6, ({ cls := "BeamHall$Panel", name := "doubtOf", desc := "(I)I" } : MethodName), prog_8_method_11_code, 7, (Option.some FieldType.int), 1, false)
def a_m99 : a_M := (11, ({ cls := "BeamHall", name := "fit", desc := "(III)I" } : MethodName), prog_1_method_20_code, 5, (Option.some FieldType.int), 3, false)
def a_m100 : a_M := (5, ({ cls := "BeamHall$Hall", name := "firstBar", desc := "(LBeamHall$Ask;II)I" } : MethodName), prog_7_method_14_code, 6, (Option.some FieldType.int), 3, false)
def a_m101 : a_M := (5, ({ cls := "BeamHall$Hall", name := "barIn", desc := "(LBeamHall$Ask;III)I" } : MethodName), prog_7_method_15_code, 6, (Option.some FieldType.int), 4, false)
def a_m102 : a_M := (5, ({ cls := "BeamHall$Hall", name := "fixedBar", desc := "(LBeamHall$Ask;II)I" } : MethodName), prog_7_method_16_code, 5, (Option.some FieldType.int), 3, false)
def a_m103 : a_M := (1, ({ cls := "BeamHall$Beam", name := "hasBegun", desc := "(I)Z" } : MethodName), prog_3_method_2_code, 2, (Option.some FieldType.boolean), 1, false)
def a_m104 : a_M := (5, ({ cls := "BeamHall$Hall", name := "isHadByOther", desc := "(LBeamHall$Ask;II)Z" } : MethodName), prog_7_method_17_code, 5, (Option.some FieldType.boolean), 3, false)
def a_m105 : a_M := (2, ({ cls := "BeamHall$Bench", name := "isOthers", desc := "(II)Z" } : MethodName), prog_4_method_2_code, 3, (Option.some FieldType.boolean), 2, false)
def a_m106 : a_M := (5, ({ cls := "BeamHall$Hall", name := "isGearElsewhere", desc := "(LBeamHall$Ask;II)Z" } : MethodName), prog_7_method_18_code, 7, (Option.some FieldType.boolean), 3, false)
def a_m107 : a_M := (5, ({ cls := "BeamHall$Hall", name := "lacksHosts", desc := "(LBeamHall$Ask;IIZ)Z" } : MethodName), prog_7_method_19_code, 5, (Option.some FieldType.boolean), 4, false)
def a_m108 : a_M := (5, ({ cls := "BeamHall$Hall", name := "freeHosts", desc := "(LBeamHall$Ask;II)I" } : MethodName), prog_7_method_20_code, 9, (Option.some FieldType.int), 3, false)
def a_m109 : a_M := (2, ({ cls := "BeamHall$Bench", name := "standing", desc := "(III)I" } : MethodName), prog_4_method_3_code, 6, (Option.some FieldType.int), 3, false)
def a_m110 : a_M := (5, ({ cls := "BeamHall$Hall", name := "isTooNear", desc := "(LBeamHall$Ask;I)Z" } : MethodName), prog_7_method_21_code, 4, (Option.some FieldType.boolean), 2, false)
def a_m111 : a_M := (5, ({ cls := "BeamHall$Hall", name := "isBeyondDays", desc := "(LBeamHall$Ask;I)Z" } : MethodName), prog_7_method_22_code, 3, (Option.some FieldType.boolean), 2, false)
def a_m112 : a_M := (11, ({ cls := "BeamHall", name := "give", desc := "(III)I" } : MethodName), prog_1_method_21_code, 5, (Option.some FieldType.int), 3, false)
def a_m113 : a_M := (5, ({ cls := "BeamHall$Hall", name := "place", desc := "(LBeamHall$Ask;II)V" } : MethodName), prog_7_method_26_code, 5, (Option.none : Option Jvm.ClassFile.FieldType), 3, false)
def a_m114 : a_M := (5, ({ cls := "BeamHall$Hall", name := "watchOf", desc := "(LBeamHall$Ask;II)I" } : MethodName), prog_7_method_25_code, 6, (Option.some FieldType.int), 3, false)
def a_m115 : a_M := (5, ({ cls := "BeamHall$Hall", name := "lay", desc := "(LBeamHall$Ask;III)V" } : MethodName), prog_7_method_29_code, 11, (Option.none : Option Jvm.ClassFile.FieldType), 4, false)
def a_m116 : a_M := (11, ({ cls := "BeamHall", name := "take", desc := "(I)I" } : MethodName), prog_1_method_22_code, 3, (Option.some FieldType.int), 1, false)
def a_m117 : a_M := (5, ({ cls := "BeamHall$Hall", name := "mayMove", desc := "(LBeamHall$Ask;)Z" } : MethodName), prog_7_method_13_code, 2, (Option.some FieldType.boolean), 1, false)
def a_m118 : a_M := (11, ({ cls := "BeamHall", name := "plan", desc := "(II)I" } : MethodName), prog_1_method_23_code, 3, (Option.some FieldType.int), 2, false)
def a_m119 : a_M := (7, ({ cls := "BeamHall$Planner", name := "planAll", desc := "(II)I" } : MethodName), prog_9_method_5_code, 5, (Option.some FieldType.int), 2, false)
def a_m120 : a_M := (7, ({ cls := "BeamHall$Planner", name := "enter", desc := "(LBeamHall$Ask;)V" } : MethodName), prog_9_method_4_code, 3, (Option.none : Option Jvm.ClassFile.FieldType), 1, false)
def a_m121 : a_M := (0, ({ cls := "BeamHall$Ask", name := "isAheadOf", desc := "(LBeamHall$Ask;)Z" } : MethodName), prog_2_method_7_code, 2, (Option.some FieldType.boolean), 1, false)
def a_m122 : a_M := (0, ({ cls := "BeamHall$Ask", name := "rank", desc := "()I" } : MethodName), prog_2_method_8_code, 1, (Option.some FieldType.int), 0, false)
def a_m123 : a_M := (7, ({ cls := "BeamHall$Planner", name := "isInShare", desc := "(LBeamHall$Ask;II)Z" } : MethodName), prog_9_method_7_code, 7, (Option.some FieldType.boolean), 3, false)
def a_m124 : a_M := (7, ({ cls := "BeamHall$Planner", name := "placeFirst", desc := "(LBeamHall$Ask;II)Z" } : MethodName), prog_9_method_6_code, 6, (Option.some FieldType.boolean), 3, false)
def a_m125 : a_M := (11, ({ cls := "BeamHall", name := "passed", desc := "(I)I" } : MethodName), prog_1_method_24_code, 2, (Option.some FieldType.int), 1, false)
def a_m126 : a_M := (7, ({ cls := "BeamHall$Planner", name := "passedAt", desc := "(I)I" } : MethodName), prog_9_method_3_code, 2, (Option.some FieldType.int), 1, false)
def a_m127 : a_M := (11, ({ cls := "BeamHall", name := "why", desc := "(IIIII)I" } : MethodName), prog_1_method_25_code, 8, (Option.some FieldType.int), 5, false)
def a_m128 : a_M := (11, ({ cls := "BeamHall", name := "best", desc := "(IIII)I" } : MethodName), prog_1_method_26_code, 5, (Option.some FieldType.int), 4, false)
def a_m129 : a_M := (5, ({ cls := "BeamHall$Hall", name := "areAsks", desc := "(I)Z" } : MethodName), prog_7_method_7_code, 2, (Option.some FieldType.boolean), 1, false)
def a_m130 : a_M := (11, ({ cls := "BeamHall", name := "isIn", desc := "(II)Z" } : MethodName), prog_1_method_44_code, 2, (Option.some FieldType.boolean), 2, false)
def a_m131 : a_M := (5, ({ cls := "BeamHall$Hall", name := "areAllFree", desc := "(I)Z" } : MethodName), prog_7_method_8_code, 4, (Option.some FieldType.boolean), 1, false)
def a_m132 : a_M := (3, ({ cls := "BeamHall$Best", name := "search", desc := "(III)V" } : MethodName), prog_5_method_2_code, 6, (Option.none : Option Jvm.ClassFile.FieldType), 3, false)
def a_m133 : a_M := (3, ({ cls := "BeamHall$Best", name := "collect", desc := "(IIII)V" } : MethodName), prog_5_method_4_code, 8, (Option.none : Option Jvm.ClassFile.FieldType), 4, false)
def a_m134 : a_M := (3, ({ cls := "BeamHall$Best", name := "collectIn", desc := "(II)V" } : MethodName), prog_5_method_5_code, 7, (Option.none : Option Jvm.ClassFile.FieldType), 2, false)
def a_m135 : a_M := (5, ({ cls := "BeamHall$Hall", name := "suits", desc := "(LBeamHall$Ask;II)Z" } : MethodName), prog_7_method_23_code, 5, (Option.some FieldType.boolean), 3, false)
def a_m136 : a_M := (5, ({ cls := "BeamHall$Hall", name := "isOpen", desc := "(LBeamHall$Ask;III)Z" } : MethodName), prog_7_method_24_code, 7, (Option.some FieldType.boolean), 4, false)
def a_m137 : a_M := (3, ({ cls := "BeamHall$Best", name := "worth", desc := "(I)I" } : MethodName), prog_5_method_3_code, 2, (Option.some FieldType.int), 1, false)
def a_m138 : a_M := (3, ({ cls := "BeamHall$Best", name := "extend", desc := "(II)V" } : MethodName), prog_5_method_6_code, 8, (Option.none : Option Jvm.ClassFile.FieldType), 2, false)
def a_m139 : a_M := (3, ({ cls := "BeamHall$Best", name := "spotOf", desc := "(I)I" } : MethodName), prog_5_method_7_code, 3, (Option.some FieldType.int), 1, false)
def a_m140 : a_M := (11, ({ cls := "BeamHall", name := "hosts", desc := "(II)I" } : MethodName), prog_1_method_27_code, 4, (Option.some FieldType.int), 2, false)
def a_m141 : a_M := (11, ({ cls := "BeamHall", name := "owe", desc := "(I)I" } : MethodName), prog_1_method_28_code, 3, (Option.some FieldType.int), 1, false)
def a_m142 : a_M := (0, ({ cls := "BeamHall$Ask", name := "owedOne", desc := "(I)LBeamHall$Ask;" } : MethodName), prog_2_method_4_code, 3, (Option.some (FieldType.object "BeamHall$Ask")), 1, false)
def a_m143 : a_M := (11, ({ cls := "BeamHall", name := "again", desc := "()I" } : MethodName), prog_1_method_29_code, 1, (Option.some FieldType.int), 0, false)
def a_m144 : a_M := (7, ({ cls := "BeamHall$Planner", name := "planAgain", desc := "()I" } : MethodName), prog_9_method_8_code, 4, (Option.some FieldType.int), 0, false)
def a_m145 : a_M := (5, ({ cls := "BeamHall$Hall", name := "clearUnfit", desc := "(LBeamHall$Ask;)Z" } : MethodName), prog_7_method_28_code, 2, (Option.some FieldType.boolean), 1, false)
def a_m146 : a_M := (11, ({ cls := "BeamHall", name := "danger", desc := "(II)I" } : MethodName), prog_1_method_30_code, 4, (Option.some FieldType.int), 2, false)
def a_m147 : a_M := (11, ({ cls := "BeamHall", name := "wish", desc := "(IIZ)I" } : MethodName), prog_1_method_31_code, 4, (Option.some FieldType.int), 3, false)
def a_m148 : a_M := (4, ({ cls := "BeamHall$Circle", name := "tell", desc := "(IIZ)Z" } : MethodName), prog_6_method_2_code, 5, (Option.some FieldType.boolean), 3, false)
def a_m149 : a_M := (11, ({ cls := "BeamHall", name := "ring", desc := "(I)I" } : MethodName), prog_1_method_32_code, 3, (Option.some FieldType.int), 1, false)
def a_m150 : a_M := (4, ({ cls := "BeamHall$Circle", name := "find", desc := "()I" } : MethodName), prog_6_method_4_code, 3, (Option.some FieldType.int), 0, false)
def a_m151 : a_M := (4, ({ cls := "BeamHall$Circle", name := "soundWishes", desc := "(I)I" } : MethodName), prog_6_method_5_code, 6, (Option.some FieldType.int), 1, false)
def a_m152 : a_M := (4, ({ cls := "BeamHall$Circle", name := "closes", desc := "(I)Z" } : MethodName), prog_6_method_6_code, 6, (Option.some FieldType.boolean), 1, false)
def a_m153 : a_M := (4, ({ cls := "BeamHall$Circle", name := "canTurn", desc := "()Z" } : MethodName), prog_6_method_8_code, 6, (Option.some FieldType.boolean), 0, false)
def a_m154 : a_M := (4, ({ cls := "BeamHall$Circle", name := "keepPlaces", desc := "()V" } : MethodName), prog_6_method_9_code, 5, (Option.none : Option Jvm.ClassFile.FieldType), 0, false)
def a_m155 : a_M := (4, ({ cls := "BeamHall$Circle", name := "restore", desc := "(I)V" } : MethodName), prog_6_method_10_code, 5, (Option.none : Option Jvm.ClassFile.FieldType), 1, false)
def a_m156 : a_M := (4, ({ cls := "BeamHall$Circle", name := "isNewGroup", desc := "(II)Z" } : MethodName), prog_6_method_7_code, 4, (Option.some FieldType.boolean), 2, false)
def a_m157 : a_M := (4, ({ cls := "BeamHall$Circle", name := "memberAt", desc := "(I)I" } : MethodName), prog_6_method_3_code, 2, (Option.some FieldType.int), 1, false)
def a_m158 : a_M := (11, ({ cls := "BeamHall", name := "swap", desc := "()I" } : MethodName), prog_1_method_33_code, 1, (Option.some FieldType.int), 0, false)
def a_m159 : a_M := (4, ({ cls := "BeamHall$Circle", name := "turn", desc := "()I" } : MethodName), prog_6_method_11_code, 3, (Option.some FieldType.int), 0, false)
def a_m160 : a_M := (11, ({ cls := "BeamHall", name := "had", desc := "(III)I" } : MethodName), prog_1_method_34_code, 5, (Option.some FieldType.int), 3, false)
def a_m161 : a_M := (2, ({ cls := "BeamHall$Bench", name := "knownOn", desc := "(II)I" } : MethodName), prog_4_method_6_code, 5, (Option.some FieldType.int), 2, false)
def a_m162 : a_M := (11, ({ cls := "BeamHall", name := "lead", desc := "(II)I" } : MethodName), prog_1_method_35_code, 4, (Option.some FieldType.int), 2, false)
def a_m163 : a_M := (11, ({ cls := "BeamHall", name := "put", desc := "(I)I" } : MethodName), prog_1_method_36_code, 2, (Option.some FieldType.int), 1, false)
def a_m164 : a_M := (11, ({ cls := "BeamHall", name := "check", desc := "(III)I" } : MethodName), prog_1_method_37_code, 6, (Option.some FieldType.int), 3, false)
def a_m165 : a_M := (11, ({ cls := "BeamHall", name := "firstWrong", desc := "(LBeamHall$Bench;II)I" } : MethodName), prog_1_method_40_code, 5, (Option.some FieldType.int), 3, false)
def a_m166 : a_M := (11, ({ cls := "BeamHall", name := "count", desc := "(I)I" } : MethodName), prog_1_method_38_code, 2, (Option.some FieldType.int), 1, false)
def a_m167 : a_M := (5, ({ cls := "BeamHall$Hall", name := "placedAsks", desc := "()I" } : MethodName), prog_7_method_9_code, 4, (Option.some FieldType.int), 0, false)
def a_m168 : a_M := (5, ({ cls := "BeamHall$Hall", name := "placedShifts", desc := "()I" } : MethodName), prog_7_method_10_code, 4, (Option.some FieldType.int), 0, false)
def a_m169 : a_M := (12, ({ cls := "BeamHallModel", name := "<init>", desc := "()V" } : MethodName), prog_14_method_1_code, 1, (Option.none : Option Jvm.ClassFile.FieldType), 0, true)
def a_m170 : a_M := (12, ({ cls := "BeamHallModel", name := "hours", desc := "(I)I" } : MethodName), prog_14_method_11_code, 2, (Option.some FieldType.int), 1, false)
def a_m171 : a_M := (12, ({ cls := "BeamHallModel", name := "refuse", desc := "(I)I" } : MethodName), prog_14_method_4_code, 2, (Option.some FieldType.int), 1, false)
def a_m172 : a_M := (12, ({ cls := "BeamHallModel", name := "mode", desc := "(III)I" } : MethodName), prog_14_method_12_code, 6, (Option.some FieldType.int), 3, false)
def a_m173 : a_M := (12, ({ cls := "BeamHallModel", name := "isShift", desc := "(I)Z" } : MethodName), prog_14_method_6_code, 1, (Option.some FieldType.boolean), 1, false)
def a_m174 : a_M := (12, ({ cls := "BeamHallModel", name := "in", desc := "(III)Z" } : MethodName), prog_14_method_3_code, 3, (Option.some FieldType.boolean), 3, false)
def a_m175 : a_M := (12, ({ cls := "BeamHallModel", name := "trip", desc := "(II)I" } : MethodName), prog_14_method_13_code, 3, (Option.some FieldType.int), 2, false)
def a_m176 : a_M := (12, ({ cls := "BeamHallModel", name := "shiftOf", desc := "(III)I" } : MethodName), prog_14_method_15_code, 4, (Option.some FieldType.int), 3, false)
def a_m177 : a_M := (12, ({ cls := "BeamHallModel", name := "lostIn", desc := "(II)I" } : MethodName), prog_14_method_14_code, 7, (Option.some FieldType.int), 2, false)
def a_m178 : a_M := (12, ({ cls := "BeamHallModel", name := "bench", desc := "(II)I" } : MethodName), prog_14_method_16_code, 3, (Option.some FieldType.int), 2, false)
def a_m179 : a_M := (12, ({ cls := "BeamHallModel", name := "set", desc := "(II)I" } : MethodName), prog_14_method_17_code, 4, (Option.some FieldType.int), 2, false)
def a_m180 : a_M := (12, ({ cls := "BeamHallModel", name := "draft", desc := "(IIII)I" } : MethodName), prog_14_method_18_code, 5, (Option.some FieldType.int), 4, false)
def a_m181 : a_M := (12, ({ cls := "BeamHallModel", name := "ask", desc := "(IIIIIII)I" } : MethodName), prog_14_method_20_code, 9, (Option.some FieldType.int), 7, false)
def a_m182 : a_M := (12, ({ cls := "BeamHallModel", name := "isAsk", desc := "(I)Z" } : MethodName), prog_14_method_8_code, 2, (Option.some FieldType.boolean), 1, false)
def a_m183 : a_M := (12, ({ cls := "BeamHallModel", name := "add", desc := "(IIIII)I" } : MethodName), prog_14_method_19_code, 7, (Option.some FieldType.int), 5, false)
def a_m184 : a_M := (12, ({ cls := "BeamHallModel", name := "withdraw", desc := "(I)I" } : MethodName), prog_14_method_25_code, 2, (Option.some FieldType.int), 1, false)
def a_m185 : a_M := (12, ({ cls := "BeamHallModel", name := "hasPlace", desc := "(I)Z" } : MethodName), prog_14_method_10_code, 2, (Option.some FieldType.boolean), 1, false)
def a_m186 : a_M := (12, ({ cls := "BeamHallModel", name := "takeFrom", desc := "(I)V" } : MethodName), prog_14_method_24_code, 3, (Option.none : Option Jvm.ClassFile.FieldType), 1, false)
def a_m187 : a_M := (12, ({ cls := "BeamHallModel", name := "happened", desc := "(III)V" } : MethodName), prog_14_method_21_code, 6, (Option.none : Option Jvm.ClassFile.FieldType), 3, false)
def a_m188 : a_M := (12, ({ cls := "BeamHallModel", name := "askOf", desc := "(II)I" } : MethodName), prog_14_method_27_code, 3, (Option.some FieldType.int), 2, false)
def a_m189 : a_M := (12, ({ cls := "BeamHallModel", name := "lossOf", desc := "(I)I" } : MethodName), prog_14_method_26_code, 4, (Option.some FieldType.int), 1, false)
def a_m190 : a_M := (12, ({ cls := "BeamHallModel", name := "owedOf", desc := "(I)I" } : MethodName), prog_14_method_47_code, 5, (Option.some FieldType.int), 1, false)
def a_m191 : a_M := (12, ({ cls := "BeamHallModel", name := "isInForce", desc := "(III)Z" } : MethodName), prog_14_method_40_code, 4, (Option.some FieldType.boolean), 3, false)
def a_m192 : a_M := (12, ({ cls := "BeamHallModel", name := "findFacts", desc := "(IIII)V" } : MethodName), prog_14_method_41_code, 5, (Option.none : Option Jvm.ClassFile.FieldType), 4, false)
def a_m193 : a_M := (12, ({ cls := "BeamHallModel", name := "markFor", desc := "(I)I" } : MethodName), prog_14_method_53_code, 5, (Option.some FieldType.int), 1, false)
def a_m194 : a_M := (12, ({ cls := "BeamHallModel", name := "habitOf", desc := "(I)I" } : MethodName), prog_14_method_51_code, 6, (Option.some FieldType.int), 1, false)
def a_m195 : a_M := (12, ({ cls := "BeamHallModel", name := "open", desc := "(I)V" } : MethodName), prog_14_method_42_code, 2, (Option.none : Option Jvm.ClassFile.FieldType), 1, false)
def a_m196 : a_M := (12, ({ cls := "BeamHallModel", name := "readSum", desc := "()I" } : MethodName), prog_14_method_32_code, 4, (Option.some FieldType.int), 0, false)
def a_m197 : a_M := (12, ({ cls := "BeamHallModel", name := "readUnit", desc := "()I" } : MethodName), prog_14_method_31_code, 4, (Option.some FieldType.int), 0, false)
def a_m198 : a_M := (12, ({ cls := "BeamHallModel", name := "here", desc := "()I" } : MethodName), prog_14_method_29_code, 1, (Option.some FieldType.int), 0, false)
def a_m199 : a_M := (12, ({ cls := "BeamHallModel", name := "factOf", desc := "(I)I" } : MethodName), prog_14_method_30_code, 1, (Option.some FieldType.int), 1, false)
def a_m200 : a_M := (12, ({ cls := "BeamHallModel", name := "feed", desc := "(IJ)I" } : MethodName), prog_14_method_28_code, 5, (Option.some FieldType.int), 2, false)
def a_m201 : a_M := (12, ({ cls := "BeamHallModel", name := "text", desc := "(I)I" } : MethodName), prog_14_method_38_code, 4, (Option.some FieldType.int), 1, false)
def a_m202 : a_M := (12, ({ cls := "BeamHallModel", name := "readRule", desc := "()Z" } : MethodName), prog_14_method_37_code, 3, (Option.some FieldType.boolean), 0, false)
def a_m203 : a_M := (12, ({ cls := "BeamHallModel", name := "readTest", desc := "()Z" } : MethodName), prog_14_method_33_code, 4, (Option.some FieldType.boolean), 0, false)
def a_m204 : a_M := (12, ({ cls := "BeamHallModel", name := "partEnds", desc := "()V" } : MethodName), prog_14_method_35_code, 1, (Option.none : Option Jvm.ClassFile.FieldType), 0, false)
def a_m205 : a_M := (12, ({ cls := "BeamHallModel", name := "topSign", desc := "()I" } : MethodName), prog_14_method_34_code, 1, (Option.some FieldType.int), 0, false)
def a_m206 : a_M := (12, ({ cls := "BeamHallModel", name := "join", desc := "(I)V" } : MethodName), prog_14_method_36_code, 4, (Option.none : Option Jvm.ClassFile.FieldType), 1, false)
def a_m207 : a_M := (12, ({ cls := "BeamHallModel", name := "strike", desc := "(II)I" } : MethodName), prog_14_method_39_code, 3, (Option.some FieldType.int), 2, false)
def a_m208 : a_M := (12, ({ cls := "BeamHallModel", name := "barred", desc := "(IIII)I" } : MethodName), prog_14_method_46_code, 5, (Option.some FieldType.int), 4, false)
def a_m209 : a_M := (12, ({ cls := "BeamHallModel", name := "isBench", desc := "(I)Z" } : MethodName), prog_14_method_7_code, 2, (Option.some FieldType.boolean), 1, false)
def a_m210 : a_M := (12, ({ cls := "BeamHallModel", name := "holding", desc := "(IIII)I" } : MethodName), prog_14_method_44_code, 6, (Option.some FieldType.int), 4, false)
def a_m211 : a_M := (12, ({ cls := "BeamHallModel", name := "doesHold", desc := "(I)Z" } : MethodName), prog_14_method_43_code, 2, (Option.some FieldType.boolean), 1, false)
def a_m212 : a_M := (12, ({ cls := "BeamHallModel", name := "quarrel", desc := "(IIIZ)I" } : MethodName), prog_14_method_45_code, 7, (Option.some FieldType.int), 4, false)
def a_m213 : a_M := (12, ({ cls := "BeamHallModel", name := "kin", desc := "(II)I" } : MethodName), prog_14_method_49_code, 4, (Option.some FieldType.int), 2, false)
def a_m214 : a_M := (12, ({ cls := "BeamHallModel", name := "isReader", desc := "(I)Z" } : MethodName), prog_14_method_48_code, 1, (Option.some FieldType.boolean), 1, false)
def a_m215 : a_M := (12, ({ cls := "BeamHallModel", name := "mark", desc := "(III)I" } : MethodName), prog_14_method_50_code, 6, (Option.some FieldType.int), 3, false)
def a_m216 : a_M := (12, ({ cls := "BeamHallModel", name := "markOf", desc := "(I)I" } : MethodName), prog_14_method_54_code, 2, (Option.some FieldType.int), 1, false)
def a_m217 : a_M := (12, ({ cls := "BeamHallModel", name := "habit", desc := "(II)I" } : MethodName), prog_14_method_55_code, 3, (Option.some FieldType.int), 2, false)
def a_m218 : a_M := (12, ({ cls := "BeamHallModel", name := "refuseFar", desc := "(I)I" } : MethodName), prog_14_method_5_code, 2, (Option.some FieldType.int), 1, false)
def a_m219 : a_M := (12, ({ cls := "BeamHallModel", name := "doubtOf", desc := "(I)I" } : MethodName), prog_14_method_52_code, 7, (Option.some FieldType.int), 1, false)
def a_m220 : a_M := (12, ({ cls := "BeamHallModel", name := "fit", desc := "(III)I" } : MethodName), prog_14_method_64_code, 4, (Option.some FieldType.int), 3, false)
def a_m221 : a_M := (12, ({ cls := "BeamHallModel", name := "fitOf", desc := "(III)I" } : MethodName), prog_14_method_63_code, 6, (Option.some FieldType.int), 3, false)
def a_m222 : a_M := (12, ({ cls := "BeamHallModel", name := "barIn", desc := "(IIII)I" } : MethodName), prog_14_method_62_code, 8, (Option.some FieldType.int), 4, false)
def a_m223 : a_M := (12, ({ cls := "BeamHallModel", name := "isBegun", desc := "(I)Z" } : MethodName), prog_14_method_9_code, 2, (Option.some FieldType.boolean), 1, false)
def a_m224 : a_M := (12, ({ cls := "BeamHallModel", name := "holdsAt", desc := "(III)Z" } : MethodName), prog_14_method_56_code, 4, (Option.some FieldType.boolean), 3, false)
def a_m225 : a_M := (12, ({ cls := "BeamHallModel", name := "freeHosts", desc := "(III)I" } : MethodName), prog_14_method_57_code, 8, (Option.some FieldType.int), 3, false)
def a_m226 : a_M := (12, ({ cls := "BeamHallModel", name := "ones", desc := "(I)I" } : MethodName), prog_14_method_58_code, 3, (Option.some FieldType.int), 1, false)
def a_m227 : a_M := (12, ({ cls := "BeamHallModel", name := "isWatched", desc := "(III)Z" } : MethodName), prog_14_method_59_code, 4, (Option.some FieldType.boolean), 3, false)
def a_m228 : a_M := (12, ({ cls := "BeamHallModel", name := "isTooNear", desc := "(II)Z" } : MethodName), prog_14_method_61_code, 4, (Option.some FieldType.boolean), 2, false)
def a_m229 : a_M := (12, ({ cls := "BeamHallModel", name := "give", desc := "(III)I" } : MethodName), prog_14_method_65_code, 4, (Option.some FieldType.int), 3, false)
def a_m230 : a_M := (12, ({ cls := "BeamHallModel", name := "giveTo", desc := "(III)V" } : MethodName), prog_14_method_23_code, 5, (Option.none : Option Jvm.ClassFile.FieldType), 3, false)
def a_m231 : a_M := (12, ({ cls := "BeamHallModel", name := "putAt", desc := "(III)V" } : MethodName), prog_14_method_22_code, 5, (Option.none : Option Jvm.ClassFile.FieldType), 3, false)
def a_m232 : a_M := (12, ({ cls := "BeamHallModel", name := "standFor", desc := "(III)I" } : MethodName), prog_14_method_60_code, 8, (Option.some FieldType.int), 3, false)
def a_m233 : a_M := (12, ({ cls := "BeamHallModel", name := "take", desc := "(I)I" } : MethodName), prog_14_method_66_code, 2, (Option.some FieldType.int), 1, false)
def a_m234 : a_M := (12, ({ cls := "BeamHallModel", name := "plan", desc := "(II)I" } : MethodName), prog_14_method_72_code, 6, (Option.some FieldType.int), 2, false)
def a_m235 : a_M := (12, ({ cls := "BeamHallModel", name := "isSpan", desc := "(II)Z" } : MethodName), prog_14_method_71_code, 2, (Option.some FieldType.boolean), 2, false)
def a_m236 : a_M := (12, ({ cls := "BeamHallModel", name := "findOrder", desc := "(I)V" } : MethodName), prog_14_method_68_code, 4, (Option.none : Option Jvm.ClassFile.FieldType), 1, false)
def a_m237 : a_M := (12, ({ cls := "BeamHallModel", name := "goesAhead", desc := "(II)Z" } : MethodName), prog_14_method_67_code, 5, (Option.some FieldType.boolean), 2, false)
def a_m238 : a_M := (12, ({ cls := "BeamHallModel", name := "giveFirst", desc := "(IIIZ)Z" } : MethodName), prog_14_method_70_code, 7, (Option.some FieldType.boolean), 4, false)
def a_m239 : a_M := (12, ({ cls := "BeamHallModel", name := "isWithinShare", desc := "(III)Z" } : MethodName), prog_14_method_69_code, 7, (Option.some FieldType.boolean), 3, false)
def a_m240 : a_M := (12, ({ cls := "BeamHallModel", name := "passed", desc := "(I)I" } : MethodName), prog_14_method_73_code, 2, (Option.some FieldType.int), 1, false)
def a_m241 : a_M := (12, ({ cls := "BeamHallModel", name := "why", desc := "(IIIII)I" } : MethodName), prog_14_method_74_code, 7, (Option.some FieldType.int), 5, false)
def a_m242 : a_M := (12, ({ cls := "BeamHallModel", name := "best", desc := "(IIII)I" } : MethodName), prog_14_method_77_code, 9, (Option.some FieldType.int), 4, false)
def a_m243 : a_M := (12, ({ cls := "BeamHallModel", name := "findBest", desc := "(II)I" } : MethodName), prog_14_method_76_code, 10, (Option.some FieldType.int), 2, false)
def a_m244 : a_M := (12, ({ cls := "BeamHallModel", name := "markAt", desc := "(I)I" } : MethodName), prog_14_method_75_code, 3, (Option.some FieldType.int), 1, false)
def a_m245 : a_M := (12, ({ cls := "BeamHallModel", name := "hosts", desc := "(II)I" } : MethodName), prog_14_method_78_code, 5, (Option.some FieldType.int), 2, false)
def a_m246 : a_M := (12, ({ cls := "BeamHallModel", name := "owe", desc := "(I)I" } : MethodName), prog_14_method_79_code, 3, (Option.some FieldType.int), 1, false)
def a_m247 : a_M := (12, ({ cls := "BeamHallModel", name := "again", desc := "()I" } : MethodName), prog_14_method_81_code, 6, (Option.some FieldType.int), 0, false)
def a_m248 : a_M := (12, ({ cls := "BeamHallModel", name := "fitsNoMore", desc := "(I)Z" } : MethodName), prog_14_method_80_code, 2, (Option.some FieldType.boolean), 1, false)
def a_m249 : a_M := (12, ({ cls := "BeamHallModel", name := "danger", desc := "(II)I" } : MethodName), prog_14_method_82_code, 3, (Option.some FieldType.int), 2, false)
def a_m250 : a_M := (12, ({ cls := "BeamHallModel", name := "wish", desc := "(IIZ)I" } : MethodName), prog_14_method_83_code, 5, (Option.some FieldType.int), 3, false)
def a_m251 : a_M := (12, ({ cls := "BeamHallModel", name := "ring", desc := "(I)I" } : MethodName), prog_14_method_87_code, 2, (Option.some FieldType.int), 1, false)
def a_m252 : a_M := (12, ({ cls := "BeamHallModel", name := "findRing", desc := "()V" } : MethodName), prog_14_method_86_code, 4, (Option.none : Option Jvm.ClassFile.FieldType), 0, false)
def a_m253 : a_M := (12, ({ cls := "BeamHallModel", name := "mayBeNext", desc := "(II)Z" } : MethodName), prog_14_method_85_code, 5, (Option.some FieldType.boolean), 2, false)
def a_m254 : a_M := (12, ({ cls := "BeamHallModel", name := "ringFits", desc := "(I)Z" } : MethodName), prog_14_method_84_code, 6, (Option.some FieldType.boolean), 1, false)
def a_m255 : a_M := (12, ({ cls := "BeamHallModel", name := "swap", desc := "()I" } : MethodName), prog_14_method_88_code, 4, (Option.some FieldType.int), 0, false)
def a_m256 : a_M := (12, ({ cls := "BeamHallModel", name := "had", desc := "(III)I" } : MethodName), prog_14_method_90_code, 4, (Option.some FieldType.int), 3, false)
def a_m257 : a_M := (12, ({ cls := "BeamHallModel", name := "hadAt", desc := "(III)I" } : MethodName), prog_14_method_89_code, 6, (Option.some FieldType.int), 3, false)
def a_m258 : a_M := (12, ({ cls := "BeamHallModel", name := "lead", desc := "(II)I" } : MethodName), prog_14_method_91_code, 5, (Option.some FieldType.int), 2, false)
def a_m259 : a_M := (12, ({ cls := "BeamHallModel", name := "put", desc := "(I)I" } : MethodName), prog_14_method_92_code, 2, (Option.some FieldType.int), 1, false)
def a_m260 : a_M := (12, ({ cls := "BeamHallModel", name := "check", desc := "(III)I" } : MethodName), prog_14_method_93_code, 6, (Option.some FieldType.int), 3, false)
def a_m261 : a_M := (12, ({ cls := "BeamHallModel", name := "count", desc := "(I)I" } : MethodName), prog_14_method_94_code, 4, (Option.some FieldType.int), 1, false)
def a_ms : List a_M := [a_m0, a_m1, a_m2, a_m3, a_m4, a_m5, a_m6, a_m7, a_m8, a_m9, a_m10, a_m11, a_m12, a_m13, a_m14, a_m15, a_m16, a_m17, a_m18, a_m19, a_m20, a_m21, a_m22, a_m23, a_m24, a_m25, a_m26, a_m27, a_m28, a_m29, a_m30, a_m31, a_m32, a_m33, a_m34, a_m35, a_m36, a_m37, a_m38, a_m39, a_m40, a_m41, a_m42, a_m43, a_m44, a_m45, a_m46, a_m47, a_m48, a_m49, a_m50, a_m51, a_m52, a_m53, a_m54, a_m55, a_m56, a_m57, a_m58, a_m59, a_m60, a_m61, a_m62, a_m63, a_m64, a_m65, a_m66, a_m67, a_m68, a_m69, a_m70, a_m71, a_m72, a_m73, a_m74, a_m75, a_m76, a_m77, a_m78, a_m79, a_m80, a_m81, a_m82, a_m83, a_m84, a_m85, a_m86, a_m87, a_m88, a_m89, a_m90, a_m91, a_m92, a_m93, a_m94, a_m95, a_m96, a_m97, a_m98, a_m99, a_m100, a_m101, a_m102, a_m103, a_m104, a_m105, a_m106, a_m107, a_m108, a_m109, a_m110, a_m111, a_m112, a_m113, a_m114, a_m115, a_m116, a_m117, a_m118, a_m119, a_m120, a_m121, a_m122, a_m123, a_m124, a_m125, a_m126, a_m127, a_m128, a_m129, a_m130, a_m131, a_m132, a_m133, a_m134, a_m135, a_m136, a_m137, a_m138, a_m139, a_m140, a_m141, a_m142, a_m143, a_m144, a_m145, a_m146, a_m147, a_m148, a_m149, a_m150, a_m151, a_m152, a_m153, a_m154, a_m155, a_m156, a_m157, a_m158, a_m159, a_m160, a_m161, a_m162, a_m163, a_m164, a_m165, a_m166, a_m167, a_m168, a_m169, a_m170, a_m171, a_m172, a_m173, a_m174, a_m175, a_m176, a_m177, a_m178, a_m179, a_m180, a_m181, a_m182, a_m183, a_m184, a_m185, a_m186, a_m187, a_m188, a_m189, a_m190, a_m191, a_m192, a_m193, a_m194, a_m195, a_m196, a_m197, a_m198, a_m199, a_m200, a_m201, a_m202, a_m203, a_m204, a_m205, a_m206, a_m207, a_m208, a_m209, a_m210, a_m211, a_m212, a_m213, a_m214, a_m215, a_m216, a_m217, a_m218, a_m219, a_m220, a_m221, a_m222, a_m223, a_m224, a_m225, a_m226, a_m227, a_m228, a_m229, a_m230, a_m231, a_m232, a_m233, a_m234, a_m235, a_m236, a_m237, a_m238, a_m239, a_m240, a_m241, a_m242, a_m243, a_m244, a_m245, a_m246, a_m247, a_m248, a_m249, a_m250, a_m251, a_m252, a_m253, a_m254, a_m255, a_m256, a_m257, a_m258, a_m259, a_m260, a_m261]
/-- what the claim's words say of a method -/
def a_okM (q : a_M) : Prop := Jvm.Cond.code q.2.1 q.2.2.1 q.2.2.2.1 q.2.2.2.2.1 ∈ a_tb ∧ a_own q.1 = q.2.1.cls ∧ plainFor q.2.1 = true ∧ (q.2.1.cls ≠ "java/lang/invoke/MethodHandle" ∧ q.2.1.cls ≠ "java/lang/invoke/VarHandle") ∧ (parseMethodDescriptor q.2.1.desc).map (fun d => d.parameters.length) = some q.2.2.2.2.2.1 ∧ (q.2.2.2.2.2.2 = true → q.2.1.name = "<init>" ∧ q.2.2.2.2.1 = none) ∧ q.2.2.2.1 ≤ 60
theorem a_okM0 : a_okM a_m0 := ⟨a_t1 (List.mem_of_getElem? (i := 21) rfl) rfl, by decide +kernel, by decide +kernel, by decide +kernel, by decide +kernel, by decide +kernel, by decide +kernel⟩
theorem a_okM1 : a_okM a_m1 := ⟨a_t1 (List.mem_of_getElem? (i := 29) rfl) rfl, by decide +kernel, by decide +kernel, by decide +kernel, by decide +kernel, by decide +kernel, by decide +kernel⟩
theorem a_okM2 : a_okM a_m2 := ⟨a_t1 (List.mem_of_getElem? (i := 65) rfl) rfl, by decide +kernel, by decide +kernel, by decide +kernel, by decide +kernel, by decide +kernel, by decide +kernel⟩
theorem a_okM3 : a_okM a_m3 := ⟨a_t1 (List.mem_of_getElem? (i := 87) rfl) rfl, by decide +kernel, by decide +kernel, by decide +kernel, by decide +kernel, by decide +kernel, by decide +kernel⟩
theorem a_okM4 : a_okM a_m4 := ⟨a_t1 (List.mem_of_getElem? (i := 111) rfl) rfl, by decide +kernel, by decide +kernel, by decide +kernel, by decide +kernel, by decide +kernel, by decide +kernel⟩
theorem a_okM5 : a_okM a_m5 := ⟨a_t1 (List.mem_of_getElem? (i := 151) rfl) rfl, by decide +kernel, by decide +kernel, by decide +kernel, by decide +kernel, by decide +kernel, by decide +kernel⟩
theorem a_okM6 : a_okM a_m6 := ⟨a_t1 (List.mem_of_getElem? (i := 176) rfl) rfl, by decide +kernel, by decide +kernel, by decide +kernel, by decide +kernel, by decide +kernel, by decide +kernel⟩
theorem a_okM7 : a_okM a_m7 := ⟨a_t1 (List.mem_of_getElem? (i := 212) rfl) rfl, by decide +kernel, by decide +kernel, by decide +kernel, by decide +kernel, by decide +kernel, by decide +kernel⟩
theorem a_okM8 : a_okM a_m8 := ⟨a_t2 (List.mem_of_getElem? (i := 11) rfl) rfl, by decide +kernel, by decide +kernel, by decide +kernel, by decide +kernel, by decide +kernel, by decide +kernel⟩
theorem a_okM9 : a_okM a_m9 := ⟨a_t2 (List.mem_of_getElem? (i := 79) rfl) rfl, by decide +kernel, by decide +kernel, by decide +kernel, by decide +kernel, by decide +kernel, by decide +kernel⟩
theorem a_okM10 : a_okM a_m10 := ⟨a_t2 (List.mem_of_getElem? (i := 83) rfl) rfl, by decide +kernel, by decide +kernel, by decide +kernel, by decide +kernel, by decide +kernel, by decide +kernel⟩
theorem a_okM11 : a_okM a_m11 := ⟨a_t2 (List.mem_of_getElem? (i := 87) rfl) rfl, by decide +kernel, by decide +kernel, by decide +kernel, by decide +kernel, by decide +kernel, by decide +kernel⟩
theorem a_okM12 : a_okM a_m12 := ⟨a_t2 (List.mem_of_getElem? (i := 90) rfl) rfl, by decide +kernel, by decide +kernel, by decide +kernel, by decide +kernel, by decide +kernel, by decide +kernel⟩
theorem a_okM13 : a_okM a_m13 := ⟨a_t2 (List.mem_of_getElem? (i := 93) rfl) rfl, by decide +kernel, by decide +kernel, by decide +kernel, by decide +kernel, by decide +kernel, by decide +kernel⟩
theorem a_okM14 : a_okM a_m14 := ⟨a_t2 (List.mem_of_getElem? (i := 97) rfl) rfl, by decide +kernel, by decide +kernel, by decide +kernel, by decide +kernel, by decide +kernel, by decide +kernel⟩
theorem a_okM15 : a_okM a_m15 := ⟨a_t2 (List.mem_of_getElem? (i := 101) rfl) rfl, by decide +kernel, by decide +kernel, by decide +kernel, by decide +kernel, by decide +kernel, by decide +kernel⟩
theorem a_okM16 : a_okM a_m16 := ⟨a_t2 (List.mem_of_getElem? (i := 105) rfl) rfl, by decide +kernel, by decide +kernel, by decide +kernel, by decide +kernel, by decide +kernel, by decide +kernel⟩
theorem a_okM17 : a_okM a_m17 := ⟨a_t2 (List.mem_of_getElem? (i := 109) rfl) rfl, by decide +kernel, by decide +kernel, by decide +kernel, by decide +kernel, by decide +kernel, by decide +kernel⟩
theorem a_okM18 : a_okM a_m18 := ⟨a_t2 (List.mem_of_getElem? (i := 113) rfl) rfl, by decide +kernel, by decide +kernel, by decide +kernel, by decide +kernel, by decide +kernel, by decide +kernel⟩
theorem a_okM19 : a_okM a_m19 := ⟨a_t2 (List.mem_of_getElem? (i := 117) rfl) rfl, by decide +kernel, by decide +kernel, by decide +kernel, by decide +kernel, by decide +kernel, by decide +kernel⟩
theorem a_okM20 : a_okM a_m20 := ⟨a_t2 (List.mem_of_getElem? (i := 121) rfl) rfl, by decide +kernel, by decide +kernel, by decide +kernel, by decide +kernel, by decide +kernel, by decide +kernel⟩
theorem a_okM21 : a_okM a_m21 := ⟨a_t2 (List.mem_of_getElem? (i := 125) rfl) rfl, by decide +kernel, by decide +kernel, by decide +kernel, by decide +kernel, by decide +kernel, by decide +kernel⟩
theorem a_okM22 : a_okM a_m22 := ⟨a_t2 (List.mem_of_getElem? (i := 129) rfl) rfl, by decide +kernel, by decide +kernel, by decide +kernel, by decide +kernel, by decide +kernel, by decide +kernel⟩
theorem a_okM23 : a_okM a_m23 := ⟨a_t2 (List.mem_of_getElem? (i := 162) rfl) rfl, by decide +kernel, by decide +kernel, by decide +kernel, by decide +kernel, by decide +kernel, by decide +kernel⟩
theorem a_okM24 : a_okM a_m24 := ⟨a_t2 (List.mem_of_getElem? (i := 166) rfl) rfl, by decide +kernel, by decide +kernel, by decide +kernel, by decide +kernel, by decide +kernel, by decide +kernel⟩
theorem a_okM25 : a_okM a_m25 := ⟨a_t2 (List.mem_of_getElem? (i := 170) rfl) rfl, by decide +kernel, by decide +kernel, by decide +kernel, by decide +kernel, by decide +kernel, by decide +kernel⟩
theorem a_okM26 : a_okM a_m26 := ⟨a_t2 (List.mem_of_getElem? (i := 174) rfl) rfl, by decide +kernel, by decide +kernel, by decide +kernel, by decide +kernel, by decide +kernel, by decide +kernel⟩
theorem a_okM27 : a_okM a_m27 := ⟨a_t2 (List.mem_of_getElem? (i := 178) rfl) rfl, by decide +kernel, by decide +kernel, by decide +kernel, by decide +kernel, by decide +kernel, by decide +kernel⟩
theorem a_okM28 : a_okM a_m28 := ⟨a_t2 (List.mem_of_getElem? (i := 182) rfl) rfl, by decide +kernel, by decide +kernel, by decide +kernel, by decide +kernel, by decide +kernel, by decide +kernel⟩
theorem a_okM29 : a_okM a_m29 := ⟨a_t2 (List.mem_of_getElem? (i := 186) rfl) rfl, by decide +kernel, by decide +kernel, by decide +kernel, by decide +kernel, by decide +kernel, by decide +kernel⟩
theorem a_okM30 : a_okM a_m30 := ⟨a_t2 (List.mem_of_getElem? (i := 190) rfl) rfl, by decide +kernel, by decide +kernel, by decide +kernel, by decide +kernel, by decide +kernel, by decide +kernel⟩
theorem a_okM31 : a_okM a_m31 := ⟨a_t2 (List.mem_of_getElem? (i := 193) rfl) rfl, by decide +kernel, by decide +kernel, by decide +kernel, by decide +kernel, by decide +kernel, by decide +kernel⟩
theorem a_okM32 : a_okM a_m32 := ⟨a_t2 (List.mem_of_getElem? (i := 197) rfl) rfl, by decide +kernel, by decide +kernel, by decide +kernel, by decide +kernel, by decide +kernel, by decide +kernel⟩
theorem a_okM33 : a_okM a_m33 := ⟨a_t2 (List.mem_of_getElem? (i := 201) rfl) rfl, by decide +kernel, by decide +kernel, by decide +kernel, by decide +kernel, by decide +kernel, by decide +kernel⟩
theorem a_okM34 : a_okM a_m34 := ⟨a_t2 (List.mem_of_getElem? (i := 204) rfl) rfl, by decide +kernel, by decide +kernel, by decide +kernel, by decide +kernel, by decide +kernel, by decide +kernel⟩
theorem a_okM35 : a_okM a_m35 := ⟨a_t2 (List.mem_of_getElem? (i := 207) rfl) rfl, by decide +kernel, by decide +kernel, by decide +kernel, by decide +kernel, by decide +kernel, by decide +kernel⟩
theorem a_okM36 : a_okM a_m36 := ⟨a_t2 (List.mem_of_getElem? (i := 211) rfl) rfl, by decide +kernel, by decide +kernel, by decide +kernel, by decide +kernel, by decide +kernel, by decide +kernel⟩
theorem a_okM37 : a_okM a_m37 := ⟨a_t2 (List.mem_of_getElem? (i := 216) rfl) rfl, by decide +kernel, by decide +kernel, by decide +kernel, by decide +kernel, by decide +kernel, by decide +kernel⟩
theorem a_okM38 : a_okM a_m38 := ⟨a_t3 (List.mem_of_getElem? (i := 83) rfl) rfl, by decide +kernel, by decide +kernel, by decide +kernel, by decide +kernel, by decide +kernel, by decide +kernel⟩
theorem a_okM39 : a_okM a_m39 := ⟨a_t3 (List.mem_of_getElem? (i := 86) rfl) rfl, by decide +kernel, by decide +kernel, by decide +kernel, by decide +kernel, by decide +kernel, by decide +kernel⟩
theorem a_okM40 : a_okM a_m40 := ⟨a_t3 (List.mem_of_getElem? (i := 89) rfl) rfl, by decide +kernel, by decide +kernel, by decide +kernel, by decide +kernel, by decide +kernel, by decide +kernel⟩
theorem a_okM41 : a_okM a_m41 := ⟨a_t3 (List.mem_of_getElem? (i := 94) rfl) rfl, by decide +kernel, by decide +kernel, by decide +kernel, by decide +kernel, by decide +kernel, by decide +kernel⟩
theorem a_okM42 : a_okM a_m42 := ⟨a_t3 (List.mem_of_getElem? (i := 98) rfl) rfl, by decide +kernel, by decide +kernel, by decide +kernel, by decide +kernel, by decide +kernel, by decide +kernel⟩
theorem a_okM43 : a_okM a_m43 := ⟨a_t3 (List.mem_of_getElem? (i := 102) rfl) rfl, by decide +kernel, by decide +kernel, by decide +kernel, by decide +kernel, by decide +kernel, by decide +kernel⟩
theorem a_okM44 : a_okM a_m44 := ⟨a_t3 (List.mem_of_getElem? (i := 106) rfl) rfl, by decide +kernel, by decide +kernel, by decide +kernel, by decide +kernel, by decide +kernel, by decide +kernel⟩
theorem a_okM45 : a_okM a_m45 := ⟨a_t3 (List.mem_of_getElem? (i := 110) rfl) rfl, by decide +kernel, by decide +kernel, by decide +kernel, by decide +kernel, by decide +kernel, by decide +kernel⟩
theorem a_okM46 : a_okM a_m46 := ⟨a_t3 (List.mem_of_getElem? (i := 114) rfl) rfl, by decide +kernel, by decide +kernel, by decide +kernel, by decide +kernel, by decide +kernel, by decide +kernel⟩
theorem a_okM47 : a_okM a_m47 := ⟨a_t3 (List.mem_of_getElem? (i := 118) rfl) rfl, by decide +kernel, by decide +kernel, by decide +kernel, by decide +kernel, by decide +kernel, by decide +kernel⟩
theorem a_okM48 : a_okM a_m48 := ⟨a_t3 (List.mem_of_getElem? (i := 122) rfl) rfl, by decide +kernel, by decide +kernel, by decide +kernel, by decide +kernel, by decide +kernel, by decide +kernel⟩
theorem a_okM49 : a_okM a_m49 := ⟨a_t3 (List.mem_of_getElem? (i := 129) rfl) rfl, by decide +kernel, by decide +kernel, by decide +kernel, by decide +kernel, by decide +kernel, by decide +kernel⟩
theorem a_okM50 : a_okM a_m50 := ⟨a_t3 (List.mem_of_getElem? (i := 134) rfl) rfl, by decide +kernel, by decide +kernel, by decide +kernel, by decide +kernel, by decide +kernel, by decide +kernel⟩
theorem a_okM51 : a_okM a_m51 := ⟨a_t3 (List.mem_of_getElem? (i := 138) rfl) rfl, by decide +kernel, by decide +kernel, by decide +kernel, by decide +kernel, by decide +kernel, by decide +kernel⟩
theorem a_okM52 : a_okM a_m52 := ⟨a_t3 (List.mem_of_getElem? (i := 143) rfl) rfl, by decide +kernel, by decide +kernel, by decide +kernel, by decide +kernel, by decide +kernel, by decide +kernel⟩
theorem a_okM53 : a_okM a_m53 := ⟨a_t3 (List.mem_of_getElem? (i := 147) rfl) rfl, by decide +kernel, by decide +kernel, by decide +kernel, by decide +kernel, by decide +kernel, by decide +kernel⟩
theorem a_okM54 : a_okM a_m54 := ⟨a_t3 (List.mem_of_getElem? (i := 151) rfl) rfl, by decide +kernel, by decide +kernel, by decide +kernel, by decide +kernel, by decide +kernel, by decide +kernel⟩
theorem a_okM55 : a_okM a_m55 := ⟨a_t3 (List.mem_of_getElem? (i := 155) rfl) rfl, by decide +kernel, by decide +kernel, by decide +kernel, by decide +kernel, by decide +kernel, by decide +kernel⟩
theorem a_okM56 : a_okM a_m56 := ⟨a_t3 (List.mem_of_getElem? (i := 159) rfl) rfl, by decide +kernel, by decide +kernel, by decide +kernel, by decide +kernel, by decide +kernel, by decide +kernel⟩
theorem a_okM57 : a_okM a_m57 := ⟨a_t3 (List.mem_of_getElem? (i := 162) rfl) rfl, by decide +kernel, by decide +kernel, by decide +kernel, by decide +kernel, by decide +kernel, by decide +kernel⟩
theorem a_okM58 : a_okM a_m58 := ⟨a_t3 (List.mem_of_getElem? (i := 169) rfl) rfl, by decide +kernel, by decide +kernel, by decide +kernel, by decide +kernel, by decide +kernel, by decide +kernel⟩
theorem a_okM59 : a_okM a_m59 := ⟨a_t3 (List.mem_of_getElem? (i := 174) rfl) rfl, by decide +kernel, by decide +kernel, by decide +kernel, by decide +kernel, by decide +kernel, by decide +kernel⟩
theorem a_okM60 : a_okM a_m60 := ⟨a_t3 (List.mem_of_getElem? (i := 178) rfl) rfl, by decide +kernel, by decide +kernel, by decide +kernel, by decide +kernel, by decide +kernel, by decide +kernel⟩
theorem a_okM61 : a_okM a_m61 := ⟨a_t3 (List.mem_of_getElem? (i := 182) rfl) rfl, by decide +kernel, by decide +kernel, by decide +kernel, by decide +kernel, by decide +kernel, by decide +kernel⟩
theorem a_okM62 : a_okM a_m62 := ⟨a_t3 (List.mem_of_getElem? (i := 186) rfl) rfl, by decide +kernel, by decide +kernel, by decide +kernel, by decide +kernel, by decide +kernel, by decide +kernel⟩
theorem a_okM63 : a_okM a_m63 := ⟨a_t3 (List.mem_of_getElem? (i := 190) rfl) rfl, by decide +kernel, by decide +kernel, by decide +kernel, by decide +kernel, by decide +kernel, by decide +kernel⟩
theorem a_okM64 : a_okM a_m64 := ⟨a_t3 (List.mem_of_getElem? (i := 195) rfl) rfl, by decide +kernel, by decide +kernel, by decide +kernel, by decide +kernel, by decide +kernel, by decide +kernel⟩
theorem a_okM65 : a_okM a_m65 := ⟨a_t3 (List.mem_of_getElem? (i := 198) rfl) rfl, by decide +kernel, by decide +kernel, by decide +kernel, by decide +kernel, by decide +kernel, by decide +kernel⟩
theorem a_okM66 : a_okM a_m66 := ⟨a_t3 (List.mem_of_getElem? (i := 203) rfl) rfl, by decide +kernel, by decide +kernel, by decide +kernel, by decide +kernel, by decide +kernel, by decide +kernel⟩
theorem a_okM67 : a_okM a_m67 := ⟨a_t3 (List.mem_of_getElem? (i := 207) rfl) rfl, by decide +kernel, by decide +kernel, by decide +kernel, by decide +kernel, by decide +kernel, by decide +kernel⟩
theorem a_okM68 : a_okM a_m68 := ⟨a_t3 (List.mem_of_getElem? (i := 212) rfl) rfl, by decide +kernel, by decide +kernel, by decide +kernel, by decide +kernel, by decide +kernel, by decide +kernel⟩
theorem a_okM69 : a_okM a_m69 := ⟨a_t3 (List.mem_of_getElem? (i := 216) rfl) rfl, by decide +kernel, by decide +kernel, by decide +kernel, by decide +kernel, by decide +kernel, by decide +kernel⟩
theorem a_okM70 : a_okM a_m70 := ⟨a_t3 (List.mem_of_getElem? (i := 220) rfl) rfl, by decide +kernel, by decide +kernel, by decide +kernel, by decide +kernel, by decide +kernel, by decide +kernel⟩
theorem a_okM71 : a_okM a_m71 := ⟨a_t3 (List.mem_of_getElem? (i := 224) rfl) rfl, by decide +kernel, by decide +kernel, by decide +kernel, by decide +kernel, by decide +kernel, by decide +kernel⟩
theorem a_okM72 : a_okM a_m72 := ⟨a_t3 (List.mem_of_getElem? (i := 228) rfl) rfl, by decide +kernel, by decide +kernel, by decide +kernel, by decide +kernel, by decide +kernel, by decide +kernel⟩
theorem a_okM73 : a_okM a_m73 := ⟨a_t3 (List.mem_of_getElem? (i := 232) rfl) rfl, by decide +kernel, by decide +kernel, by decide +kernel, by decide +kernel, by decide +kernel, by decide +kernel⟩
theorem a_okM74 : a_okM a_m74 := ⟨a_t3 (List.mem_of_getElem? (i := 235) rfl) rfl, by decide +kernel, by decide +kernel, by decide +kernel, by decide +kernel, by decide +kernel, by decide +kernel⟩
theorem a_okM75 : a_okM a_m75 := ⟨a_t3 (List.mem_of_getElem? (i := 239) rfl) rfl, by decide +kernel, by decide +kernel, by decide +kernel, by decide +kernel, by decide +kernel, by decide +kernel⟩
theorem a_okM76 : a_okM a_m76 := ⟨a_t4 (List.mem_of_getElem? (i := 2) rfl) rfl, by decide +kernel, by decide +kernel, by decide +kernel, by decide +kernel, by decide +kernel, by decide +kernel⟩
theorem a_okM77 : a_okM a_m77 := ⟨a_t4 (List.mem_of_getElem? (i := 6) rfl) rfl, by decide +kernel, by decide +kernel, by decide +kernel, by decide +kernel, by decide +kernel, by decide +kernel⟩
theorem a_okM78 : a_okM a_m78 := ⟨a_t4 (List.mem_of_getElem? (i := 10) rfl) rfl, by decide +kernel, by decide +kernel, by decide +kernel, by decide +kernel, by decide +kernel, by decide +kernel⟩
theorem a_okM79 : a_okM a_m79 := ⟨a_t4 (List.mem_of_getElem? (i := 14) rfl) rfl, by decide +kernel, by decide +kernel, by decide +kernel, by decide +kernel, by decide +kernel, by decide +kernel⟩
theorem a_okM80 : a_okM a_m80 := ⟨a_t4 (List.mem_of_getElem? (i := 18) rfl) rfl, by decide +kernel, by decide +kernel, by decide +kernel, by decide +kernel, by decide +kernel, by decide +kernel⟩
theorem a_okM81 : a_okM a_m81 := ⟨a_t4 (List.mem_of_getElem? (i := 22) rfl) rfl, by decide +kernel, by decide +kernel, by decide +kernel, by decide +kernel, by decide +kernel, by decide +kernel⟩
theorem a_okM82 : a_okM a_m82 := ⟨a_t4 (List.mem_of_getElem? (i := 27) rfl) rfl, by decide +kernel, by decide +kernel, by decide +kernel, by decide +kernel, by decide +kernel, by decide +kernel⟩
theorem a_okM83 : a_okM a_m83 := ⟨a_t4 (List.mem_of_getElem? (i := 31) rfl) rfl, by decide +kernel, by decide +kernel, by decide +kernel, by decide +kernel, by decide +kernel, by decide +kernel⟩
theorem a_okM84 : a_okM a_m84 := ⟨a_t4 (List.mem_of_getElem? (i := 55) rfl) rfl, by decide +kernel, by decide +kernel, by decide +kernel, by decide +kernel, by decide +kernel, by decide +kernel⟩
theorem a_okM85 : a_okM a_m85 := ⟨a_t4 (List.mem_of_getElem? (i := 60) rfl) rfl, by decide +kernel, by decide +kernel, by decide +kernel, by decide +kernel, by decide +kernel, by decide +kernel⟩
theorem a_okM86 : a_okM a_m86 := ⟨a_t4 (List.mem_of_getElem? (i := 65) rfl) rfl, by decide +kernel, by decide +kernel, by decide +kernel, by decide +kernel, by decide +kernel, by decide +kernel⟩
theorem a_okM87 : a_okM a_m87 := ⟨a_t4 (List.mem_of_getElem? (i := 69) rfl) rfl, by decide +kernel, by decide +kernel, by decide +kernel, by decide +kernel, by decide +kernel, by decide +kernel⟩
theorem a_okM88 : a_okM a_m88 := ⟨a_t4 (List.mem_of_getElem? (i := 73) rfl) rfl, by decide +kernel, by decide +kernel, by decide +kernel, by decide +kernel, by decide +kernel, by decide +kernel⟩
theorem a_okM89 : a_okM a_m89 := ⟨a_t4 (List.mem_of_getElem? (i := 77) rfl) rfl, by decide +kernel, by decide +kernel, by decide +kernel, by decide +kernel, by decide +kernel, by decide +kernel⟩
theorem a_okM90 : a_okM a_m90 := ⟨a_t4 (List.mem_of_getElem? (i := 80) rfl) rfl, by decide +kernel, by decide +kernel, by decide +kernel, by decide +kernel, by decide +kernel, by decide +kernel⟩
theorem a_okM91 : a_okM a_m91 := ⟨a_t4 (List.mem_of_getElem? (i := 84) rfl) rfl, by decide +kernel, by decide +kernel, by decide +kernel, by decide +kernel, by decide +kernel, by decide +kernel⟩
theorem a_okM92 : a_okM a_m92 := ⟨a_t4 (List.mem_of_getElem? (i := 88) rfl) rfl, by decide +kernel, by decide +kernel, by decide +kernel, by decide +kernel, by decide +kernel, by decide +kernel⟩
theorem a_okM93 : a_okM a_m93 := ⟨a_t4 (List.mem_of_getElem? (i := 92) rfl) rfl, by decide +kernel, by decide +kernel, by decide +kernel, by decide +kernel, by decide +kernel, by decide +kernel⟩
theorem a_okM94 : a_okM a_m94 := ⟨a_t4 (List.mem_of_getElem? (i := 96) rfl) rfl, by decide +kernel, by decide +kernel, by decide +kernel, by decide +kernel, by decide +kernel, by decide +kernel⟩
theorem a_okM95 : a_okM a_m95 := ⟨a_t4 (List.mem_of_getElem? (i := 100) rfl) rfl, by decide +kernel, by decide +kernel, by decide +kernel, by decide +kernel, by decide +kernel, by decide +kernel⟩
theorem a_okM96 : a_okM a_m96 := ⟨a_t4 (List.mem_of_getElem? (i := 104) rfl) rfl, by decide +kernel, by decide +kernel, by decide +kernel, by decide +kernel, by decide +kernel, by decide +kernel⟩
theorem a_okM97 : a_okM a_m97 := ⟨a_t4 (List.mem_of_getElem? (i := 108) rfl) rfl, by decide +kernel, by decide +kernel, by decide +kernel, by decide +kernel, by decide +kernel, by decide +kernel⟩
theorem a_okM98 : a_okM a_m98 := ⟨a_t4 (List.mem_of_getElem? (i := 114) rfl) rfl, by decide +kernel, by decide +kernel, by decide +kernel, by decide +kernel, by decide +kernel, by decide +kernel⟩
theorem a_okM99 : a_okM a_m99 := ⟨a_t4 (List.mem_of_getElem? (i := 118) rfl) rfl, by decide +kernel, by decide +kernel, by decide +kernel, by decide +kernel, by decide +kernel, by decide +kernel⟩
theorem a_okM100 : a_okM a_m100 := ⟨a_t4 (List.mem_of_getElem? (i := 122) rfl) rfl, by decide +kernel, by decide +kernel, by decide +kernel, by decide +kernel, by decide +kernel, by decide +kernel⟩
theorem a_okM101 : a_okM a_m101 := ⟨a_t4 (List.mem_of_getElem? (i := 126) rfl) rfl, by decide +kernel, by decide +kernel, by decide +kernel, by decide +kernel, by decide +kernel, by decide +kernel⟩
theorem a_okM102 : a_okM a_m102 := ⟨a_t4 (List.mem_of_getElem? (i := 130) rfl) rfl, by decide +kernel, by decide +kernel, by decide +kernel, by decide +kernel, by decide +kernel, by decide +kernel⟩
theorem a_okM103 : a_okM a_m103 := ⟨a_t4 (List.mem_of_getElem? (i := 134) rfl) rfl, by decide +kernel, by decide +kernel, by decide +kernel, by decide +kernel, by decide +kernel, by decide +kernel⟩
theorem a_okM104 : a_okM a_m104 := ⟨a_t4 (List.mem_of_getElem? (i := 138) rfl) rfl, by decide +kernel, by decide +kernel, by decide +kernel, by decide +kernel, by decide +kernel, by decide +kernel⟩
theorem a_okM105 : a_okM a_m105 := ⟨a_t4 (List.mem_of_getElem? (i := 142) rfl) rfl, by decide +kernel, by decide +kernel, by decide +kernel, by decide +kernel, by decide +kernel, by decide +kernel⟩
theorem a_okM106 : a_okM a_m106 := ⟨a_t4 (List.mem_of_getElem? (i := 146) rfl) rfl, by decide +kernel, by decide +kernel, by decide +kernel, by decide +kernel, by decide +kernel, by decide +kernel⟩
theorem a_okM107 : a_okM a_m107 := ⟨a_t4 (List.mem_of_getElem? (i := 152) rfl) rfl, by decide +kernel, by decide +kernel, by decide +kernel, by decide +kernel, by decide +kernel, by decide +kernel⟩
theorem a_okM108 : a_okM a_m108 := ⟨a_t4 (List.mem_of_getElem? (i := 156) rfl) rfl, by decide +kernel, by decide +kernel, by decide +kernel, by decide +kernel, by decide +kernel, by decide +kernel⟩
theorem a_okM109 : a_okM a_m109 := ⟨a_t4 (List.mem_of_getElem? (i := 162) rfl) rfl, by decide +kernel, by decide +kernel, by decide +kernel, by decide +kernel, by decide +kernel, by decide +kernel⟩
theorem a_okM110 : a_okM a_m110 := ⟨a_t4 (List.mem_of_getElem? (i := 167) rfl) rfl, by decide +kernel, by decide +kernel, by decide +kernel, by decide +kernel, by decide +kernel, by decide +kernel⟩
theorem a_okM111 : a_okM a_m111 := ⟨a_t4 (List.mem_of_getElem? (i := 171) rfl) rfl, by decide +kernel, by decide +kernel, by decide +kernel, by decide +kernel, by decide +kernel, by decide +kernel⟩
theorem a_okM112 : a_okM a_m112 := ⟨a_t4 (List.mem_of_getElem? (i := 175) rfl) rfl, by decide +kernel, by decide +kernel, by decide +kernel, by decide +kernel, by decide +kernel, by decide +kernel⟩
theorem a_okM113 : a_okM a_m113 := ⟨a_t4 (List.mem_of_getElem? (i := 180) rfl) rfl, by decide +kernel, by decide +kernel, by decide +kernel, by decide +kernel, by decide +kernel, by decide +kernel⟩
theorem a_okM114 : a_okM a_m114 := ⟨a_t4 (List.mem_of_getElem? (i := 184) rfl) rfl, by decide +kernel, by decide +kernel, by decide +kernel, by decide +kernel, by decide +kernel, by decide +kernel⟩
theorem a_okM115 : a_okM a_m115 := ⟨a_t4 (List.mem_of_getElem? (i := 188) rfl) rfl, by decide +kernel, by decide +kernel, by decide +kernel, by decide +kernel, by decide +kernel, by decide +kernel⟩
theorem a_okM116 : a_okM a_m116 := ⟨a_t4 (List.mem_of_getElem? (i := 192) rfl) rfl, by decide +kernel, by decide +kernel, by decide +kernel, by decide +kernel, by decide +kernel, by decide +kernel⟩
theorem a_okM117 : a_okM a_m117 := ⟨a_t4 (List.mem_of_getElem? (i := 196) rfl) rfl, by decide +kernel, by decide +kernel, by decide +kernel, by decide +kernel, by decide +kernel, by decide +kernel⟩
theorem a_okM118 : a_okM a_m118 := ⟨a_t4 (List.mem_of_getElem? (i := 200) rfl) rfl, by decide +kernel, by decide +kernel, by decide +kernel, by decide +kernel, by decide +kernel, by decide +kernel⟩
theorem a_okM119 : a_okM a_m119 := ⟨a_t4 (List.mem_of_getElem? (i := 204) rfl) rfl, by decide +kernel, by decide +kernel, by decide +kernel, by decide +kernel, by decide +kernel, by decide +kernel⟩
theorem a_okM120 : a_okM a_m120 := ⟨a_t4 (List.mem_of_getElem? (i := 210) rfl) rfl, by decide +kernel, by decide +kernel, by decide +kernel, by decide +kernel, by decide +kernel, by decide +kernel⟩
theorem a_okM121 : a_okM a_m121 := ⟨a_t4 (List.mem_of_getElem? (i := 214) rfl) rfl, by decide +kernel, by decide +kernel, by decide +kernel, by decide +kernel, by decide +kernel, by decide +kernel⟩
theorem a_okM122 : a_okM a_m122 := ⟨a_t4 (List.mem_of_getElem? (i := 218) rfl) rfl, by decide +kernel, by decide +kernel, by decide +kernel, by decide +kernel, by decide +kernel, by decide +kernel⟩
theorem a_okM123 : a_okM a_m123 := ⟨a_t4 (List.mem_of_getElem? (i := 222) rfl) rfl, by decide +kernel, by decide +kernel, by decide +kernel, by decide +kernel, by decide +kernel, by decide +kernel⟩
theorem a_okM124 : a_okM a_m124 := ⟨a_t4 (List.mem_of_getElem? (i := 228) rfl) rfl, by decide +kernel, by decide +kernel, by decide +kernel, by decide +kernel, by decide +kernel, by decide +kernel⟩
theorem a_okM125 : a_okM a_m125 := ⟨a_t4 (List.mem_of_getElem? (i := 234) rfl) rfl, by decide +kernel, by decide +kernel, by decide +kernel, by decide +kernel, by decide +kernel, by decide +kernel⟩
theorem a_okM126 : a_okM a_m126 := ⟨a_t4 (List.mem_of_getElem? (i := 238) rfl) rfl, by decide +kernel, by decide +kernel, by decide +kernel, by decide +kernel, by decide +kernel, by decide +kernel⟩
theorem a_okM127 : a_okM a_m127 := ⟨a_t5 (List.mem_of_getElem? (i := 2) rfl) rfl, by decide +kernel, by decide +kernel, by decide +kernel, by decide +kernel, by decide +kernel, by decide +kernel⟩
theorem a_okM128 : a_okM a_m128 := ⟨a_t5 (List.mem_of_getElem? (i := 7) rfl) rfl, by decide +kernel, by decide +kernel, by decide +kernel, by decide +kernel, by decide +kernel, by decide +kernel⟩
theorem a_okM129 : a_okM a_m129 := ⟨a_t5 (List.mem_of_getElem? (i := 11) rfl) rfl, by decide +kernel, by decide +kernel, by decide +kernel, by decide +kernel, by decide +kernel, by decide +kernel⟩
theorem a_okM130 : a_okM a_m130 := ⟨a_t5 (List.mem_of_getElem? (i := 15) rfl) rfl, by decide +kernel, by decide +kernel, by decide +kernel, by decide +kernel, by decide +kernel, by decide +kernel⟩
theorem a_okM131 : a_okM a_m131 := ⟨a_t5 (List.mem_of_getElem? (i := 20) rfl) rfl, by decide +kernel, by decide +kernel, by decide +kernel, by decide +kernel, by decide +kernel, by decide +kernel⟩
theorem a_okM132 : a_okM a_m132 := ⟨a_t5 (List.mem_of_getElem? (i := 25) rfl) rfl, by decide +kernel, by decide +kernel, by decide +kernel, by decide +kernel, by decide +kernel, by decide +kernel⟩
theorem a_okM133 : a_okM a_m133 := ⟨a_t5 (List.mem_of_getElem? (i := 31) rfl) rfl, by decide +kernel, by decide +kernel, by decide +kernel, by decide +kernel, by decide +kernel, by decide +kernel⟩
theorem a_okM134 : a_okM a_m134 := ⟨a_t5 (List.mem_of_getElem? (i := 36) rfl) rfl, by decide +kernel, by decide +kernel, by decide +kernel, by decide +kernel, by decide +kernel, by decide +kernel⟩
theorem a_okM135 : a_okM a_m135 := ⟨a_t5 (List.mem_of_getElem? (i := 40) rfl) rfl, by decide +kernel, by decide +kernel, by decide +kernel, by decide +kernel, by decide +kernel, by decide +kernel⟩
theorem a_okM136 : a_okM a_m136 := ⟨a_t5 (List.mem_of_getElem? (i := 45) rfl) rfl, by decide +kernel, by decide +kernel, by decide +kernel, by decide +kernel, by decide +kernel, by decide +kernel⟩
theorem a_okM137 : a_okM a_m137 := ⟨a_t5 (List.mem_of_getElem? (i := 49) rfl) rfl, by decide +kernel, by decide +kernel, by decide +kernel, by decide +kernel, by decide +kernel, by decide +kernel⟩
theorem a_okM138 : a_okM a_m138 := ⟨a_t5 (List.mem_of_getElem? (i := 54) rfl) rfl, by decide +kernel, by decide +kernel, by decide +kernel, by decide +kernel, by decide +kernel, by decide +kernel⟩
theorem a_okM139 : a_okM a_m139 := ⟨a_t5 (List.mem_of_getElem? (i := 61) rfl) rfl, by decide +kernel, by decide +kernel, by decide +kernel, by decide +kernel, by decide +kernel, by decide +kernel⟩
theorem a_okM140 : a_okM a_m140 := ⟨a_t5 (List.mem_of_getElem? (i := 65) rfl) rfl, by decide +kernel, by decide +kernel, by decide +kernel, by decide +kernel, by decide +kernel, by decide +kernel⟩
theorem a_okM141 : a_okM a_m141 := ⟨a_t5 (List.mem_of_getElem? (i := 69) rfl) rfl, by decide +kernel, by decide +kernel, by decide +kernel, by decide +kernel, by decide +kernel, by decide +kernel⟩
theorem a_okM142 : a_okM a_m142 := ⟨a_t5 (List.mem_of_getElem? (i := 73) rfl) rfl, by decide +kernel, by decide +kernel, by decide +kernel, by decide +kernel, by decide +kernel, by decide +kernel⟩
theorem a_okM143 : a_okM a_m143 := ⟨a_t5 (List.mem_of_getElem? (i := 81) rfl) rfl, by decide +kernel, by decide +kernel, by decide +kernel, by decide +kernel, by decide +kernel, by decide +kernel⟩
theorem a_okM144 : a_okM a_m144 := ⟨a_t5 (List.mem_of_getElem? (i := 85) rfl) rfl, by decide +kernel, by decide +kernel, by decide +kernel, by decide +kernel, by decide +kernel, by decide +kernel⟩
theorem a_okM145 : a_okM a_m145 := ⟨a_t5 (List.mem_of_getElem? (i := 89) rfl) rfl, by decide +kernel, by decide +kernel, by decide +kernel, by decide +kernel, by decide +kernel, by decide +kernel⟩
theorem a_okM146 : a_okM a_m146 := ⟨a_t5 (List.mem_of_getElem? (i := 96) rfl) rfl, by decide +kernel, by decide +kernel, by decide +kernel, by decide +kernel, by decide +kernel, by decide +kernel⟩
theorem a_okM147 : a_okM a_m147 := ⟨a_t5 (List.mem_of_getElem? (i := 101) rfl) rfl, by decide +kernel, by decide +kernel, by decide +kernel, by decide +kernel, by decide +kernel, by decide +kernel⟩
theorem a_okM148 : a_okM a_m148 := ⟨a_t5 (List.mem_of_getElem? (i := 105) rfl) rfl, by decide +kernel, by decide +kernel, by decide +kernel, by decide +kernel, by decide +kernel, by decide +kernel⟩
theorem a_okM149 : a_okM a_m149 := ⟨a_t5 (List.mem_of_getElem? (i := 109) rfl) rfl, by decide +kernel, by decide +kernel, by decide +kernel, by decide +kernel, by decide +kernel, by decide +kernel⟩
theorem a_okM150 : a_okM a_m150 := ⟨a_t5 (List.mem_of_getElem? (i := 113) rfl) rfl, by decide +kernel, by decide +kernel, by decide +kernel, by decide +kernel, by decide +kernel, by decide +kernel⟩
theorem a_okM151 : a_okM a_m151 := ⟨a_t5 (List.mem_of_getElem? (i := 117) rfl) rfl, by decide +kernel, by decide +kernel, by decide +kernel, by decide +kernel, by decide +kernel, by decide +kernel⟩
theorem a_okM152 : a_okM a_m152 := ⟨a_t5 (List.mem_of_getElem? (i := 125) rfl) rfl, by decide +kernel, by decide +kernel, by decide +kernel, by decide +kernel, by decide +kernel, by decide +kernel⟩
theorem a_okM153 : a_okM a_m153 := ⟨a_t5 (List.mem_of_getElem? (i := 129) rfl) rfl, by decide +kernel, by decide +kernel, by decide +kernel, by decide +kernel, by decide +kernel, by decide +kernel⟩
theorem a_okM154 : a_okM a_m154 := ⟨a_t5 (List.mem_of_getElem? (i := 133) rfl) rfl, by decide +kernel, by decide +kernel, by decide +kernel, by decide +kernel, by decide +kernel, by decide +kernel⟩
theorem a_okM155 : a_okM a_m155 := ⟨a_t5 (List.mem_of_getElem? (i := 143) rfl) rfl, by decide +kernel, by decide +kernel, by decide +kernel, by decide +kernel, by decide +kernel, by decide +kernel⟩
theorem a_okM156 : a_okM a_m156 := ⟨a_t5 (List.mem_of_getElem? (i := 148) rfl) rfl, by decide +kernel, by decide +kernel, by decide +kernel, by decide +kernel, by decide +kernel, by decide +kernel⟩
theorem a_okM157 : a_okM a_m157 := ⟨a_t5 (List.mem_of_getElem? (i := 152) rfl) rfl, by decide +kernel, by decide +kernel, by decide +kernel, by decide +kernel, by decide +kernel, by decide +kernel⟩
theorem a_okM158 : a_okM a_m158 := ⟨a_t5 (List.mem_of_getElem? (i := 156) rfl) rfl, by decide +kernel, by decide +kernel, by decide +kernel, by decide +kernel, by decide +kernel, by decide +kernel⟩
theorem a_okM159 : a_okM a_m159 := ⟨a_t5 (List.mem_of_getElem? (i := 160) rfl) rfl, by decide +kernel, by decide +kernel, by decide +kernel, by decide +kernel, by decide +kernel, by decide +kernel⟩
theorem a_okM160 : a_okM a_m160 := ⟨a_t5 (List.mem_of_getElem? (i := 166) rfl) rfl, by decide +kernel, by decide +kernel, by decide +kernel, by decide +kernel, by decide +kernel, by decide +kernel⟩
theorem a_okM161 : a_okM a_m161 := ⟨a_t5 (List.mem_of_getElem? (i := 170) rfl) rfl, by decide +kernel, by decide +kernel, by decide +kernel, by decide +kernel, by decide +kernel, by decide +kernel⟩
theorem a_okM162 : a_okM a_m162 := ⟨a_t5 (List.mem_of_getElem? (i := 174) rfl) rfl, by decide +kernel, by decide +kernel, by decide +kernel, by decide +kernel, by decide +kernel, by decide +kernel⟩
theorem a_okM163 : a_okM a_m163 := ⟨a_t5 (List.mem_of_getElem? (i := 178) rfl) rfl, by decide +kernel, by decide +kernel, by decide +kernel, by decide +kernel, by decide +kernel, by decide +kernel⟩
theorem a_okM164 : a_okM a_m164 := ⟨a_t5 (List.mem_of_getElem? (i := 182) rfl) rfl, by decide +kernel, by decide +kernel, by decide +kernel, by decide +kernel, by decide +kernel, by decide +kernel⟩
theorem a_okM165 : a_okM a_m165 := ⟨a_t5 (List.mem_of_getElem? (i := 186) rfl) rfl, by decide +kernel, by decide +kernel, by decide +kernel, by decide +kernel, by decide +kernel, by decide +kernel⟩
theorem a_okM166 : a_okM a_m166 := ⟨a_t5 (List.mem_of_getElem? (i := 190) rfl) rfl, by decide +kernel, by decide +kernel, by decide +kernel, by decide +kernel, by decide +kernel, by decide +kernel⟩
theorem a_okM167 : a_okM a_m167 := ⟨a_t5 (List.mem_of_getElem? (i := 194) rfl) rfl, by decide +kernel, by decide +kernel, by decide +kernel, by decide +kernel, by decide +kernel, by decide +kernel⟩
theorem a_okM168 : a_okM a_m168 := ⟨a_t5 (List.mem_of_getElem? (i := 198) rfl) rfl, by decide +kernel, by decide +kernel, by decide +kernel, by decide +kernel, by decide +kernel, by decide +kernel⟩
theorem a_okM169 : a_okM a_m169 := ⟨a_t5 (List.mem_of_getElem? (i := 203) rfl) rfl, by decide +kernel, by decide +kernel, by decide +kernel, by decide +kernel, by decide +kernel, by decide +kernel⟩
theorem a_okM170 : a_okM a_m170 := ⟨a_t6 (List.mem_of_getElem? (i := 211) rfl) rfl, by decide +kernel, by decide +kernel, by decide +kernel, by decide +kernel, by decide +kernel, by decide +kernel⟩
theorem a_okM171 : a_okM a_m171 := ⟨a_t6 (List.mem_of_getElem? (i := 215) rfl) rfl, by decide +kernel, by decide +kernel, by decide +kernel, by decide +kernel, by decide +kernel, by decide +kernel⟩
theorem a_okM172 : a_okM a_m172 := ⟨a_t6 (List.mem_of_getElem? (i := 219) rfl) rfl, by decide +kernel, by decide +kernel, by decide +kernel, by decide +kernel, by decide +kernel, by decide +kernel⟩
theorem a_okM173 : a_okM a_m173 := ⟨a_t6 (List.mem_of_getElem? (i := 222) rfl) rfl, by decide +kernel, by decide +kernel, by decide +kernel, by decide +kernel, by decide +kernel, by decide +kernel⟩
theorem a_okM174 : a_okM a_m174 := ⟨a_t6 (List.mem_of_getElem? (i := 225) rfl) rfl, by decide +kernel, by decide +kernel, by decide +kernel, by decide +kernel, by decide +kernel, by decide +kernel⟩
theorem a_okM175 : a_okM a_m175 := ⟨a_t6 (List.mem_of_getElem? (i := 229) rfl) rfl, by decide +kernel, by decide +kernel, by decide +kernel, by decide +kernel, by decide +kernel, by decide +kernel⟩
theorem a_okM176 : a_okM a_m176 := ⟨a_t6 (List.mem_of_getElem? (i := 233) rfl) rfl, by decide +kernel, by decide +kernel, by decide +kernel, by decide +kernel, by decide +kernel, by decide +kernel⟩
theorem a_okM177 : a_okM a_m177 := ⟨a_t6 (List.mem_of_getElem? (i := 237) rfl) rfl, by decide +kernel, by decide +kernel, by decide +kernel, by decide +kernel, by decide +kernel, by decide +kernel⟩
theorem a_okM178 : a_okM a_m178 := ⟨a_t7 (List.mem_of_getElem? (i := 1) rfl) rfl, by decide +kernel, by decide +kernel, by decide +kernel, by decide +kernel, by decide +kernel, by decide +kernel⟩
theorem a_okM179 : a_okM a_m179 := ⟨a_t7 (List.mem_of_getElem? (i := 5) rfl) rfl, by decide +kernel, by decide +kernel, by decide +kernel, by decide +kernel, by decide +kernel, by decide +kernel⟩
theorem a_okM180 : a_okM a_m180 := ⟨a_t7 (List.mem_of_getElem? (i := 9) rfl) rfl, by decide +kernel, by decide +kernel, by decide +kernel, by decide +kernel, by decide +kernel, by decide +kernel⟩
theorem a_okM181 : a_okM a_m181 := ⟨a_t7 (List.mem_of_getElem? (i := 13) rfl) rfl, by decide +kernel, by decide +kernel, by decide +kernel, by decide +kernel, by decide +kernel, by decide +kernel⟩
theorem a_okM182 : a_okM a_m182 := ⟨a_t7 (List.mem_of_getElem? (i := 17) rfl) rfl, by decide +kernel, by decide +kernel, by decide +kernel, by decide +kernel, by decide +kernel, by decide +kernel⟩
theorem a_okM183 : a_okM a_m183 := ⟨a_t7 (List.mem_of_getElem? (i := 21) rfl) rfl, by decide +kernel, by decide +kernel, by decide +kernel, by decide +kernel, by decide +kernel, by decide +kernel⟩
theorem a_okM184 : a_okM a_m184 := ⟨a_t7 (List.mem_of_getElem? (i := 25) rfl) rfl, by decide +kernel, by decide +kernel, by decide +kernel, by decide +kernel, by decide +kernel, by decide +kernel⟩
theorem a_okM185 : a_okM a_m185 := ⟨a_t7 (List.mem_of_getElem? (i := 29) rfl) rfl, by decide +kernel, by decide +kernel, by decide +kernel, by decide +kernel, by decide +kernel, by decide +kernel⟩
theorem a_okM186 : a_okM a_m186 := ⟨a_t7 (List.mem_of_getElem? (i := 33) rfl) rfl, by decide +kernel, by decide +kernel, by decide +kernel, by decide +kernel, by decide +kernel, by decide +kernel⟩
theorem a_okM187 : a_okM a_m187 := ⟨a_t7 (List.mem_of_getElem? (i := 37) rfl) rfl, by decide +kernel, by decide +kernel, by decide +kernel, by decide +kernel, by decide +kernel, by decide +kernel⟩
theorem a_okM188 : a_okM a_m188 := ⟨a_t7 (List.mem_of_getElem? (i := 41) rfl) rfl, by decide +kernel, by decide +kernel, by decide +kernel, by decide +kernel, by decide +kernel, by decide +kernel⟩
theorem a_okM189 : a_okM a_m189 := ⟨a_t7 (List.mem_of_getElem? (i := 45) rfl) rfl, by decide +kernel, by decide +kernel, by decide +kernel, by decide +kernel, by decide +kernel, by decide +kernel⟩
theorem a_okM190 : a_okM a_m190 := ⟨a_t7 (List.mem_of_getElem? (i := 49) rfl) rfl, by decide +kernel, by decide +kernel, by decide +kernel, by decide +kernel, by decide +kernel, by decide +kernel⟩
theorem a_okM191 : a_okM a_m191 := ⟨a_t7 (List.mem_of_getElem? (i := 53) rfl) rfl, by decide +kernel, by decide +kernel, by decide +kernel, by decide +kernel, by decide +kernel, by decide +kernel⟩
theorem a_okM192 : a_okM a_m192 := ⟨a_t7 (List.mem_of_getElem? (i := 57) rfl) rfl, by decide +kernel, by decide +kernel, by decide +kernel, by decide +kernel, by decide +kernel, by decide +kernel⟩
theorem a_okM193 : a_okM a_m193 := ⟨a_t7 (List.mem_of_getElem? (i := 61) rfl) rfl, by decide +kernel, by decide +kernel, by decide +kernel, by decide +kernel, by decide +kernel, by decide +kernel⟩
theorem a_okM194 : a_okM a_m194 := ⟨a_t7 (List.mem_of_getElem? (i := 65) rfl) rfl, by decide +kernel, by decide +kernel, by decide +kernel, by decide +kernel, by decide +kernel, by decide +kernel⟩
theorem a_okM195 : a_okM a_m195 := ⟨a_t7 (List.mem_of_getElem? (i := 69) rfl) rfl, by decide +kernel, by decide +kernel, by decide +kernel, by decide +kernel, by decide +kernel, by decide +kernel⟩
theorem a_okM196 : a_okM a_m196 := ⟨a_t7 (List.mem_of_getElem? (i := 73) rfl) rfl, by decide +kernel, by decide +kernel, by decide +kernel, by decide +kernel, by decide +kernel, by decide +kernel⟩
theorem a_okM197 : a_okM a_m197 := ⟨a_t7 (List.mem_of_getElem? (i := 77) rfl) rfl, by decide +kernel, by decide +kernel, by decide +kernel, by decide +kernel, by decide +kernel, by decide +kernel⟩
theorem a_okM198 : a_okM a_m198 := ⟨a_t7 (List.mem_of_getElem? (i := 81) rfl) rfl, by decide +kernel, by decide +kernel, by decide +kernel, by decide +kernel, by decide +kernel, by decide +kernel⟩
theorem a_okM199 : a_okM a_m199 := ⟨a_t7 (List.mem_of_getElem? (i := 84) rfl) rfl, by decide +kernel, by decide +kernel, by decide +kernel, by decide +kernel, by decide +kernel, by decide +kernel⟩
theorem a_okM200 : a_okM a_m200 := ⟨a_t7 (List.mem_of_getElem? (i := 88) rfl) rfl, by decide +kernel, by decide +kernel, by decide +kernel, by decide +kernel, by decide +kernel, by decide +kernel⟩
theorem a_okM201 : a_okM a_m201 := ⟨a_t7 (List.mem_of_getElem? (i := 93) rfl) rfl, by decide +kernel, by decide +kernel, by decide +kernel, by decide +kernel, by decide +kernel, by decide +kernel⟩
theorem a_okM202 : a_okM a_m202 := ⟨a_t7 (List.mem_of_getElem? (i := 97) rfl) rfl, by decide +kernel, by decide +kernel, by decide +kernel, by decide +kernel, by decide +kernel, by decide +kernel⟩
theorem a_okM203 : a_okM a_m203 := ⟨a_t7 (List.mem_of_getElem? (i := 101) rfl) rfl, by decide +kernel, by decide +kernel, by decide +kernel, by decide +kernel, by decide +kernel, by decide +kernel⟩
theorem a_okM204 : a_okM a_m204 := ⟨a_t7 (List.mem_of_getElem? (i := 105) rfl) rfl, by decide +kernel, by decide +kernel, by decide +kernel, by decide +kernel, by decide +kernel, by decide +kernel⟩
theorem a_okM205 : a_okM a_m205 := ⟨a_t7 (List.mem_of_getElem? (i := 109) rfl) rfl, by decide +kernel, by decide +kernel, by decide +kernel, by decide +kernel, by decide +kernel, by decide +kernel⟩
theorem a_okM206 : a_okM a_m206 := ⟨a_t7 (List.mem_of_getElem? (i := 113) rfl) rfl, by decide +kernel, by decide +kernel, by decide +kernel, by decide +kernel, by decide +kernel, by decide +kernel⟩
theorem a_okM207 : a_okM a_m207 := ⟨a_t7 (List.mem_of_getElem? (i := 118) rfl) rfl, by decide +kernel, by decide +kernel, by decide +kernel, by decide +kernel, by decide +kernel, by decide +kernel⟩
theorem a_okM208 : a_okM a_m208 := ⟨a_t7 (List.mem_of_getElem? (i := 122) rfl) rfl, by decide +kernel, by decide +kernel, by decide +kernel, by decide +kernel, by decide +kernel, by decide +kernel⟩
theorem a_okM209 : a_okM a_m209 := ⟨a_t7 (List.mem_of_getElem? (i := 126) rfl) rfl, by decide +kernel, by decide +kernel, by decide +kernel, by decide +kernel, by decide +kernel, by decide +kernel⟩
theorem a_okM210 : a_okM a_m210 := ⟨a_t7 (List.mem_of_getElem? (i := 130) rfl) rfl, by decide +kernel, by decide +kernel, by decide +kernel, by decide +kernel, by decide +kernel, by decide +kernel⟩
theorem a_okM211 : a_okM a_m211 := ⟨a_t7 (List.mem_of_getElem? (i := 134) rfl) rfl, by decide +kernel, by decide +kernel, by decide +kernel, by decide +kernel, by decide +kernel, by decide +kernel⟩
theorem a_okM212 : a_okM a_m212 := ⟨a_t7 (List.mem_of_getElem? (i := 138) rfl) rfl, by decide +kernel, by decide +kernel, by decide +kernel, by decide +kernel, by decide +kernel, by decide +kernel⟩
theorem a_okM213 : a_okM a_m213 := ⟨a_t7 (List.mem_of_getElem? (i := 142) rfl) rfl, by decide +kernel, by decide +kernel, by decide +kernel, by decide +kernel, by decide +kernel, by decide +kernel⟩
theorem a_okM214 : a_okM a_m214 := ⟨a_t7 (List.mem_of_getElem? (i := 145) rfl) rfl, by decide +kernel, by decide +kernel, by decide +kernel, by decide +kernel, by decide +kernel, by decide +kernel⟩
theorem a_okM215 : a_okM a_m215 := ⟨a_t7 (List.mem_of_getElem? (i := 149) rfl) rfl, by decide +kernel, by decide +kernel, by decide +kernel, by decide +kernel, by decide +kernel, by decide +kernel⟩
theorem a_okM216 : a_okM a_m216 := ⟨a_t7 (List.mem_of_getElem? (i := 153) rfl) rfl, by decide +kernel, by decide +kernel, by decide +kernel, by decide +kernel, by decide +kernel, by decide +kernel⟩
theorem a_okM217 : a_okM a_m217 := ⟨a_t7 (List.mem_of_getElem? (i := 157) rfl) rfl, by decide +kernel, by decide +kernel, by decide +kernel, by decide +kernel, by decide +kernel, by decide +kernel⟩
theorem a_okM218 : a_okM a_m218 := ⟨a_t7 (List.mem_of_getElem? (i := 161) rfl) rfl, by decide +kernel, by decide +kernel, by decide +kernel, by decide +kernel, by decide +kernel, by decide +kernel⟩
theorem a_okM219 : a_okM a_m219 := ⟨a_t7 (List.mem_of_getElem? (i := 166) rfl) rfl, by decide +kernel, by decide +kernel, by decide +kernel, by decide +kernel, by decide +kernel, by decide +kernel⟩
theorem a_okM220 : a_okM a_m220 := ⟨a_t7 (List.mem_of_getElem? (i := 171) rfl) rfl, by decide +kernel, by decide +kernel, by decide +kernel, by decide +kernel, by decide +kernel, by decide +kernel⟩
theorem a_okM221 : a_okM a_m221 := ⟨a_t7 (List.mem_of_getElem? (i := 175) rfl) rfl, by decide +kernel, by decide +kernel, by decide +kernel, by decide +kernel, by decide +kernel, by decide +kernel⟩
theorem a_okM222 : a_okM a_m222 := ⟨a_t7 (List.mem_of_getElem? (i := 179) rfl) rfl, by decide +kernel, by decide +kernel, by decide +kernel, by decide +kernel, by decide +kernel, by decide +kernel⟩
theorem a_okM223 : a_okM a_m223 := ⟨a_t7 (List.mem_of_getElem? (i := 183) rfl) rfl, by decide +kernel, by decide +kernel, by decide +kernel, by decide +kernel, by decide +kernel, by decide +kernel⟩
theorem a_okM224 : a_okM a_m224 := ⟨a_t7 (List.mem_of_getElem? (i := 187) rfl) rfl, by decide +kernel, by decide +kernel, by decide +kernel, by decide +kernel, by decide +kernel, by decide +kernel⟩
theorem a_okM225 : a_okM a_m225 := ⟨a_t7 (List.mem_of_getElem? (i := 191) rfl) rfl, by decide +kernel, by decide +kernel, by decide +kernel, by decide +kernel, by decide +kernel, by decide +kernel⟩
theorem a_okM226 : a_okM a_m226 := ⟨a_t7 (List.mem_of_getElem? (i := 194) rfl) rfl, by decide +kernel, by decide +kernel, by decide +kernel, by decide +kernel, by decide +kernel, by decide +kernel⟩
theorem a_okM227 : a_okM a_m227 := ⟨a_t7 (List.mem_of_getElem? (i := 198) rfl) rfl, by decide +kernel, by decide +kernel, by decide +kernel, by decide +kernel, by decide +kernel, by decide +kernel⟩
theorem a_okM228 : a_okM a_m228 := ⟨a_t7 (List.mem_of_getElem? (i := 202) rfl) rfl, by decide +kernel, by decide +kernel, by decide +kernel, by decide +kernel, by decide +kernel, by decide +kernel⟩
theorem a_okM229 : a_okM a_m229 := ⟨a_t7 (List.mem_of_getElem? (i := 206) rfl) rfl, by decide +kernel, by decide +kernel, by decide +kernel, by decide +kernel, by decide +kernel, by decide +kernel⟩
theorem a_okM230 : a_okM a_m230 := ⟨a_t7 (List.mem_of_getElem? (i := 210) rfl) rfl, by decide +kernel, by decide +kernel, by decide +kernel, by decide +kernel, by decide +kernel, by decide +kernel⟩
theorem a_okM231 : a_okM a_m231 := ⟨a_t7 (List.mem_of_getElem? (i := 214) rfl) rfl, by decide +kernel, by decide +kernel, by decide +kernel, by decide +kernel, by decide +kernel, by decide +kernel⟩
theorem a_okM232 : a_okM a_m232 := ⟨a_t7 (List.mem_of_getElem? (i := 218) rfl) rfl, by decide +kernel, by decide +kernel, by decide +kernel, by decide +kernel, by decide +kernel, by decide +kernel⟩
theorem a_okM233 : a_okM a_m233 := ⟨a_t7 (List.mem_of_getElem? (i := 222) rfl) rfl, by decide +kernel, by decide +kernel, by decide +kernel, by decide +kernel, by decide +kernel, by decide +kernel⟩
theorem a_okM234 : a_okM a_m234 := ⟨a_t7 (List.mem_of_getElem? (i := 226) rfl) rfl, by decide +kernel, by decide +kernel, by decide +kernel, by decide +kernel, by decide +kernel, by decide +kernel⟩
theorem a_okM235 : a_okM a_m235 := ⟨a_t7 (List.mem_of_getElem? (i := 229) rfl) rfl, by decide +kernel, by decide +kernel, by decide +kernel, by decide +kernel, by decide +kernel, by decide +kernel⟩
theorem a_okM236 : a_okM a_m236 := ⟨a_t7 (List.mem_of_getElem? (i := 233) rfl) rfl, by decide +kernel, by decide +kernel, by decide +kernel, by decide +kernel, by decide +kernel, by decide +kernel⟩
theorem a_okM237 : a_okM a_m237 := ⟨a_t7 (List.mem_of_getElem? (i := 237) rfl) rfl, by decide +kernel, by decide +kernel, by decide +kernel, by decide +kernel, by decide +kernel, by decide +kernel⟩
theorem a_okM238 : a_okM a_m238 := ⟨a_t8 (List.mem_of_getElem? (i := 1) rfl) rfl, by decide +kernel, by decide +kernel, by decide +kernel, by decide +kernel, by decide +kernel, by decide +kernel⟩
theorem a_okM239 : a_okM a_m239 := ⟨a_t8 (List.mem_of_getElem? (i := 5) rfl) rfl, by decide +kernel, by decide +kernel, by decide +kernel, by decide +kernel, by decide +kernel, by decide +kernel⟩
theorem a_okM240 : a_okM a_m240 := ⟨a_t8 (List.mem_of_getElem? (i := 9) rfl) rfl, by decide +kernel, by decide +kernel, by decide +kernel, by decide +kernel, by decide +kernel, by decide +kernel⟩
theorem a_okM241 : a_okM a_m241 := ⟨a_t8 (List.mem_of_getElem? (i := 13) rfl) rfl, by decide +kernel, by decide +kernel, by decide +kernel, by decide +kernel, by decide +kernel, by decide +kernel⟩
theorem a_okM242 : a_okM a_m242 := ⟨a_t8 (List.mem_of_getElem? (i := 17) rfl) rfl, by decide +kernel, by decide +kernel, by decide +kernel, by decide +kernel, by decide +kernel, by decide +kernel⟩
theorem a_okM243 : a_okM a_m243 := ⟨a_t8 (List.mem_of_getElem? (i := 21) rfl) rfl, by decide +kernel, by decide +kernel, by decide +kernel, by decide +kernel, by decide +kernel, by decide +kernel⟩
theorem a_okM244 : a_okM a_m244 := ⟨a_t8 (List.mem_of_getElem? (i := 25) rfl) rfl, by decide +kernel, by decide +kernel, by decide +kernel, by decide +kernel, by decide +kernel, by decide +kernel⟩
theorem a_okM245 : a_okM a_m245 := ⟨a_t8 (List.mem_of_getElem? (i := 29) rfl) rfl, by decide +kernel, by decide +kernel, by decide +kernel, by decide +kernel, by decide +kernel, by decide +kernel⟩
theorem a_okM246 : a_okM a_m246 := ⟨a_t8 (List.mem_of_getElem? (i := 33) rfl) rfl, by decide +kernel, by decide +kernel, by decide +kernel, by decide +kernel, by decide +kernel, by decide +kernel⟩
theorem a_okM247 : a_okM a_m247 := ⟨a_t8 (List.mem_of_getElem? (i := 37) rfl) rfl, by decide +kernel, by decide +kernel, by decide +kernel, by decide +kernel, by decide +kernel, by decide +kernel⟩
theorem a_okM248 : a_okM a_m248 := ⟨a_t8 (List.mem_of_getElem? (i := 41) rfl) rfl, by decide +kernel, by decide +kernel, by decide +kernel, by decide +kernel, by decide +kernel, by decide +kernel⟩
theorem a_okM249 : a_okM a_m249 := ⟨a_t8 (List.mem_of_getElem? (i := 45) rfl) rfl, by decide +kernel, by decide +kernel, by decide +kernel, by decide +kernel, by decide +kernel, by decide +kernel⟩
theorem a_okM250 : a_okM a_m250 := ⟨a_t8 (List.mem_of_getElem? (i := 49) rfl) rfl, by decide +kernel, by decide +kernel, by decide +kernel, by decide +kernel, by decide +kernel, by decide +kernel⟩
theorem a_okM251 : a_okM a_m251 := ⟨a_t8 (List.mem_of_getElem? (i := 53) rfl) rfl, by decide +kernel, by decide +kernel, by decide +kernel, by decide +kernel, by decide +kernel, by decide +kernel⟩
theorem a_okM252 : a_okM a_m252 := ⟨a_t8 (List.mem_of_getElem? (i := 57) rfl) rfl, by decide +kernel, by decide +kernel, by decide +kernel, by decide +kernel, by decide +kernel, by decide +kernel⟩
theorem a_okM253 : a_okM a_m253 := ⟨a_t8 (List.mem_of_getElem? (i := 61) rfl) rfl, by decide +kernel, by decide +kernel, by decide +kernel, by decide +kernel, by decide +kernel, by decide +kernel⟩
theorem a_okM254 : a_okM a_m254 := ⟨a_t8 (List.mem_of_getElem? (i := 65) rfl) rfl, by decide +kernel, by decide +kernel, by decide +kernel, by decide +kernel, by decide +kernel, by decide +kernel⟩
theorem a_okM255 : a_okM a_m255 := ⟨a_t8 (List.mem_of_getElem? (i := 69) rfl) rfl, by decide +kernel, by decide +kernel, by decide +kernel, by decide +kernel, by decide +kernel, by decide +kernel⟩
theorem a_okM256 : a_okM a_m256 := ⟨a_t8 (List.mem_of_getElem? (i := 73) rfl) rfl, by decide +kernel, by decide +kernel, by decide +kernel, by decide +kernel, by decide +kernel, by decide +kernel⟩
theorem a_okM257 : a_okM a_m257 := ⟨a_t8 (List.mem_of_getElem? (i := 77) rfl) rfl, by decide +kernel, by decide +kernel, by decide +kernel, by decide +kernel, by decide +kernel, by decide +kernel⟩
theorem a_okM258 : a_okM a_m258 := ⟨a_t8 (List.mem_of_getElem? (i := 81) rfl) rfl, by decide +kernel, by decide +kernel, by decide +kernel, by decide +kernel, by decide +kernel, by decide +kernel⟩
theorem a_okM259 : a_okM a_m259 := ⟨a_t8 (List.mem_of_getElem? (i := 85) rfl) rfl, by decide +kernel, by decide +kernel, by decide +kernel, by decide +kernel, by decide +kernel, by decide +kernel⟩
theorem a_okM260 : a_okM a_m260 := ⟨a_t8 (List.mem_of_getElem? (i := 89) rfl) rfl, by decide +kernel, by decide +kernel, by decide +kernel, by decide +kernel, by decide +kernel, by decide +kernel⟩
theorem a_okM261 : a_okM a_m261 := ⟨a_t8 (List.mem_of_getElem? (i := 93) rfl) rfl, by decide +kernel, by decide +kernel, by decide +kernel, by decide +kernel, by decide +kernel, by decide +kernel⟩
set_option maxRecDepth 100000 in
theorem a_ms_ok : ∀ q ∈ a_ms, a_okM q := List.forall_mem_cons.mpr ⟨a_okM0, List.forall_mem_cons.mpr ⟨a_okM1, List.forall_mem_cons.mpr ⟨a_okM2, List.forall_mem_cons.mpr ⟨a_okM3, List.forall_mem_cons.mpr ⟨a_okM4, List.forall_mem_cons.mpr ⟨a_okM5, List.forall_mem_cons.mpr ⟨a_okM6, List.forall_mem_cons.mpr ⟨a_okM7, List.forall_mem_cons.mpr ⟨a_okM8, List.forall_mem_cons.mpr ⟨a_okM9, List.forall_mem_cons.mpr ⟨a_okM10, List.forall_mem_cons.mpr ⟨a_okM11, List.forall_mem_cons.mpr ⟨a_okM12, List.forall_mem_cons.mpr ⟨a_okM13, List.forall_mem_cons.mpr ⟨a_okM14, List.forall_mem_cons.mpr ⟨a_okM15, List.forall_mem_cons.mpr ⟨a_okM16, List.forall_mem_cons.mpr ⟨a_okM17, List.forall_mem_cons.mpr ⟨a_okM18, List.forall_mem_cons.mpr ⟨a_okM19, List.forall_mem_cons.mpr ⟨a_okM20, List.forall_mem_cons.mpr ⟨a_okM21, List.forall_mem_cons.mpr ⟨a_okM22, List.forall_mem_cons.mpr ⟨a_okM23, List.forall_mem_cons.mpr ⟨a_okM24, List.forall_mem_cons.mpr ⟨a_okM25, List.forall_mem_cons.mpr ⟨a_okM26, List.forall_mem_cons.mpr ⟨a_okM27, List.forall_mem_cons.mpr ⟨a_okM28, List.forall_mem_cons.mpr ⟨a_okM29, List.forall_mem_cons.mpr ⟨a_okM30, List.forall_mem_cons.mpr ⟨a_okM31, List.forall_mem_cons.mpr ⟨a_okM32, List.forall_mem_cons.mpr ⟨a_okM33, List.forall_mem_cons.mpr ⟨a_okM34, List.forall_mem_cons.mpr ⟨a_okM35, List.forall_mem_cons.mpr ⟨a_okM36, List.forall_mem_cons.mpr ⟨a_okM37, List.forall_mem_cons.mpr ⟨a_okM38, List.forall_mem_cons.mpr ⟨a_okM39, List.forall_mem_cons.mpr ⟨a_okM40, List.forall_mem_cons.mpr ⟨a_okM41, List.forall_mem_cons.mpr ⟨a_okM42, List.forall_mem_cons.mpr ⟨a_okM43, List.forall_mem_cons.mpr ⟨a_okM44, List.forall_mem_cons.mpr ⟨a_okM45, List.forall_mem_cons.mpr ⟨a_okM46, List.forall_mem_cons.mpr ⟨a_okM47, List.forall_mem_cons.mpr ⟨a_okM48, List.forall_mem_cons.mpr ⟨a_okM49, List.forall_mem_cons.mpr ⟨a_okM50, List.forall_mem_cons.mpr ⟨a_okM51, List.forall_mem_cons.mpr ⟨a_okM52, List.forall_mem_cons.mpr ⟨a_okM53, List.forall_mem_cons.mpr ⟨a_okM54, List.forall_mem_cons.mpr ⟨a_okM55, List.forall_mem_cons.mpr ⟨a_okM56, List.forall_mem_cons.mpr ⟨a_okM57, List.forall_mem_cons.mpr ⟨a_okM58, List.forall_mem_cons.mpr ⟨a_okM59, List.forall_mem_cons.mpr ⟨a_okM60, List.forall_mem_cons.mpr ⟨a_okM61, List.forall_mem_cons.mpr ⟨a_okM62, List.forall_mem_cons.mpr ⟨a_okM63, List.forall_mem_cons.mpr ⟨a_okM64, List.forall_mem_cons.mpr ⟨a_okM65, List.forall_mem_cons.mpr ⟨a_okM66, List.forall_mem_cons.mpr ⟨a_okM67, List.forall_mem_cons.mpr ⟨a_okM68, List.forall_mem_cons.mpr ⟨a_okM69, List.forall_mem_cons.mpr ⟨a_okM70, List.forall_mem_cons.mpr ⟨a_okM71, List.forall_mem_cons.mpr ⟨a_okM72, List.forall_mem_cons.mpr ⟨a_okM73, List.forall_mem_cons.mpr ⟨a_okM74, List.forall_mem_cons.mpr ⟨a_okM75, List.forall_mem_cons.mpr ⟨a_okM76, List.forall_mem_cons.mpr ⟨a_okM77, List.forall_mem_cons.mpr ⟨a_okM78, List.forall_mem_cons.mpr ⟨a_okM79, List.forall_mem_cons.mpr ⟨a_okM80, List.forall_mem_cons.mpr ⟨a_okM81, List.forall_mem_cons.mpr ⟨a_okM82, List.forall_mem_cons.mpr ⟨a_okM83, List.forall_mem_cons.mpr ⟨a_okM84, List.forall_mem_cons.mpr ⟨a_okM85, List.forall_mem_cons.mpr ⟨a_okM86, List.forall_mem_cons.mpr ⟨a_okM87, List.forall_mem_cons.mpr ⟨a_okM88, List.forall_mem_cons.mpr ⟨a_okM89, List.forall_mem_cons.mpr ⟨a_okM90, List.forall_mem_cons.mpr ⟨a_okM91, List.forall_mem_cons.mpr ⟨a_okM92, List.forall_mem_cons.mpr ⟨a_okM93, List.forall_mem_cons.mpr ⟨a_okM94, List.forall_mem_cons.mpr ⟨a_okM95, List.forall_mem_cons.mpr ⟨a_okM96, List.forall_mem_cons.mpr ⟨a_okM97, List.forall_mem_cons.mpr ⟨a_okM98, List.forall_mem_cons.mpr ⟨a_okM99, List.forall_mem_cons.mpr ⟨a_okM100, List.forall_mem_cons.mpr ⟨a_okM101, List.forall_mem_cons.mpr ⟨a_okM102, List.forall_mem_cons.mpr ⟨a_okM103, List.forall_mem_cons.mpr ⟨a_okM104, List.forall_mem_cons.mpr ⟨a_okM105, List.forall_mem_cons.mpr ⟨a_okM106, List.forall_mem_cons.mpr ⟨a_okM107, List.forall_mem_cons.mpr ⟨a_okM108, List.forall_mem_cons.mpr ⟨a_okM109, List.forall_mem_cons.mpr ⟨a_okM110, List.forall_mem_cons.mpr ⟨a_okM111, List.forall_mem_cons.mpr ⟨a_okM112, List.forall_mem_cons.mpr ⟨a_okM113, List.forall_mem_cons.mpr ⟨a_okM114, List.forall_mem_cons.mpr ⟨a_okM115, List.forall_mem_cons.mpr ⟨a_okM116, List.forall_mem_cons.mpr ⟨a_okM117, List.forall_mem_cons.mpr ⟨a_okM118, List.forall_mem_cons.mpr ⟨a_okM119, List.forall_mem_cons.mpr ⟨a_okM120, List.forall_mem_cons.mpr ⟨a_okM121, List.forall_mem_cons.mpr ⟨a_okM122, List.forall_mem_cons.mpr ⟨a_okM123, List.forall_mem_cons.mpr ⟨a_okM124, List.forall_mem_cons.mpr ⟨a_okM125, List.forall_mem_cons.mpr ⟨a_okM126, List.forall_mem_cons.mpr ⟨a_okM127, List.forall_mem_cons.mpr ⟨a_okM128, List.forall_mem_cons.mpr ⟨a_okM129, List.forall_mem_cons.mpr ⟨a_okM130, List.forall_mem_cons.mpr ⟨a_okM131, List.forall_mem_cons.mpr ⟨a_okM132, List.forall_mem_cons.mpr ⟨a_okM133, List.forall_mem_cons.mpr ⟨a_okM134, List.forall_mem_cons.mpr ⟨a_okM135, List.forall_mem_cons.mpr ⟨a_okM136, List.forall_mem_cons.mpr ⟨a_okM137, List.forall_mem_cons.mpr ⟨a_okM138, List.forall_mem_cons.mpr ⟨a_okM139, List.forall_mem_cons.mpr ⟨a_okM140, List.forall_mem_cons.mpr ⟨a_okM141, List.forall_mem_cons.mpr ⟨a_okM142, List.forall_mem_cons.mpr ⟨a_okM143, List.forall_mem_cons.mpr ⟨a_okM144, List.forall_mem_cons.mpr ⟨a_okM145, List.forall_mem_cons.mpr ⟨a_okM146, List.forall_mem_cons.mpr ⟨a_okM147, List.forall_mem_cons.mpr ⟨a_okM148, List.forall_mem_cons.mpr ⟨a_okM149, List.forall_mem_cons.mpr ⟨a_okM150, List.forall_mem_cons.mpr ⟨a_okM151, List.forall_mem_cons.mpr ⟨a_okM152, List.forall_mem_cons.mpr ⟨a_okM153, List.forall_mem_cons.mpr ⟨a_okM154, List.forall_mem_cons.mpr ⟨a_okM155, List.forall_mem_cons.mpr ⟨a_okM156, List.forall_mem_cons.mpr ⟨a_okM157, List.forall_mem_cons.mpr ⟨a_okM158, List.forall_mem_cons.mpr ⟨a_okM159, List.forall_mem_cons.mpr ⟨a_okM160, List.forall_mem_cons.mpr ⟨a_okM161, List.forall_mem_cons.mpr ⟨a_okM162, List.forall_mem_cons.mpr ⟨a_okM163, List.forall_mem_cons.mpr ⟨a_okM164, List.forall_mem_cons.mpr ⟨a_okM165, List.forall_mem_cons.mpr ⟨a_okM166, List.forall_mem_cons.mpr ⟨a_okM167, List.forall_mem_cons.mpr ⟨a_okM168, List.forall_mem_cons.mpr ⟨a_okM169, List.forall_mem_cons.mpr ⟨a_okM170, List.forall_mem_cons.mpr ⟨a_okM171, List.forall_mem_cons.mpr ⟨a_okM172, List.forall_mem_cons.mpr ⟨a_okM173, List.forall_mem_cons.mpr ⟨a_okM174, List.forall_mem_cons.mpr ⟨a_okM175, List.forall_mem_cons.mpr ⟨a_okM176, List.forall_mem_cons.mpr ⟨a_okM177, List.forall_mem_cons.mpr ⟨a_okM178, List.forall_mem_cons.mpr ⟨a_okM179, List.forall_mem_cons.mpr ⟨a_okM180, List.forall_mem_cons.mpr ⟨a_okM181, List.forall_mem_cons.mpr ⟨a_okM182, List.forall_mem_cons.mpr ⟨a_okM183, List.forall_mem_cons.mpr ⟨a_okM184, List.forall_mem_cons.mpr ⟨a_okM185, List.forall_mem_cons.mpr ⟨a_okM186, List.forall_mem_cons.mpr ⟨a_okM187, List.forall_mem_cons.mpr ⟨a_okM188, List.forall_mem_cons.mpr ⟨a_okM189, List.forall_mem_cons.mpr ⟨a_okM190, List.forall_mem_cons.mpr ⟨a_okM191, List.forall_mem_cons.mpr ⟨a_okM192, List.forall_mem_cons.mpr ⟨a_okM193, List.forall_mem_cons.mpr ⟨a_okM194, List.forall_mem_cons.mpr ⟨a_okM195, List.forall_mem_cons.mpr ⟨a_okM196, List.forall_mem_cons.mpr ⟨a_okM197, List.forall_mem_cons.mpr ⟨a_okM198, List.forall_mem_cons.mpr ⟨a_okM199, List.forall_mem_cons.mpr ⟨a_okM200, List.forall_mem_cons.mpr ⟨a_okM201, List.forall_mem_cons.mpr ⟨a_okM202, List.forall_mem_cons.mpr ⟨a_okM203, List.forall_mem_cons.mpr ⟨a_okM204, List.forall_mem_cons.mpr ⟨a_okM205, List.forall_mem_cons.mpr ⟨a_okM206, List.forall_mem_cons.mpr ⟨a_okM207, List.forall_mem_cons.mpr ⟨a_okM208, List.forall_mem_cons.mpr ⟨a_okM209, List.forall_mem_cons.mpr ⟨a_okM210, List.forall_mem_cons.mpr ⟨a_okM211, List.forall_mem_cons.mpr ⟨a_okM212, List.forall_mem_cons.mpr ⟨a_okM213, List.forall_mem_cons.mpr ⟨a_okM214, List.forall_mem_cons.mpr ⟨a_okM215, List.forall_mem_cons.mpr ⟨a_okM216, List.forall_mem_cons.mpr ⟨a_okM217, List.forall_mem_cons.mpr ⟨a_okM218, List.forall_mem_cons.mpr ⟨a_okM219, List.forall_mem_cons.mpr ⟨a_okM220, List.forall_mem_cons.mpr ⟨a_okM221, List.forall_mem_cons.mpr ⟨a_okM222, List.forall_mem_cons.mpr ⟨a_okM223, List.forall_mem_cons.mpr ⟨a_okM224, List.forall_mem_cons.mpr ⟨a_okM225, List.forall_mem_cons.mpr ⟨a_okM226, List.forall_mem_cons.mpr ⟨a_okM227, List.forall_mem_cons.mpr ⟨a_okM228, List.forall_mem_cons.mpr ⟨a_okM229, List.forall_mem_cons.mpr ⟨a_okM230, List.forall_mem_cons.mpr ⟨a_okM231, List.forall_mem_cons.mpr ⟨a_okM232, List.forall_mem_cons.mpr ⟨a_okM233, List.forall_mem_cons.mpr ⟨a_okM234, List.forall_mem_cons.mpr ⟨a_okM235, List.forall_mem_cons.mpr ⟨a_okM236, List.forall_mem_cons.mpr ⟨a_okM237, List.forall_mem_cons.mpr ⟨a_okM238, List.forall_mem_cons.mpr ⟨a_okM239, List.forall_mem_cons.mpr ⟨a_okM240, List.forall_mem_cons.mpr ⟨a_okM241, List.forall_mem_cons.mpr ⟨a_okM242, List.forall_mem_cons.mpr ⟨a_okM243, List.forall_mem_cons.mpr ⟨a_okM244, List.forall_mem_cons.mpr ⟨a_okM245, List.forall_mem_cons.mpr ⟨a_okM246, List.forall_mem_cons.mpr ⟨a_okM247, List.forall_mem_cons.mpr ⟨a_okM248, List.forall_mem_cons.mpr ⟨a_okM249, List.forall_mem_cons.mpr ⟨a_okM250, List.forall_mem_cons.mpr ⟨a_okM251, List.forall_mem_cons.mpr ⟨a_okM252, List.forall_mem_cons.mpr ⟨a_okM253, List.forall_mem_cons.mpr ⟨a_okM254, List.forall_mem_cons.mpr ⟨a_okM255, List.forall_mem_cons.mpr ⟨a_okM256, List.forall_mem_cons.mpr ⟨a_okM257, List.forall_mem_cons.mpr ⟨a_okM258, List.forall_mem_cons.mpr ⟨a_okM259, List.forall_mem_cons.mpr ⟨a_okM260, List.forall_mem_cons.mpr ⟨a_okM261, fun _ h => absurd h List.not_mem_nil⟩⟩⟩⟩⟩⟩⟩⟩⟩⟩⟩⟩⟩⟩⟩⟩⟩⟩⟩⟩⟩⟩⟩⟩⟩⟩⟩⟩⟩⟩⟩⟩⟩⟩⟩⟩⟩⟩⟩⟩⟩⟩⟩⟩⟩⟩⟩⟩⟩⟩⟩⟩⟩⟩⟩⟩⟩⟩⟩⟩⟩⟩⟩⟩⟩⟩⟩⟩⟩⟩⟩⟩⟩⟩⟩⟩⟩⟩⟩⟩⟩⟩⟩⟩⟩⟩⟩⟩⟩⟩⟩⟩⟩⟩⟩⟩⟩⟩⟩⟩⟩⟩⟩⟩⟩⟩⟩⟩⟩⟩⟩⟩⟩⟩⟩⟩⟩⟩⟩⟩⟩⟩⟩⟩⟩⟩⟩⟩⟩⟩⟩⟩⟩⟩⟩⟩⟩⟩⟩⟩⟩⟩⟩⟩⟩⟩⟩⟩⟩⟩⟩⟩⟩⟩⟩⟩⟩⟩⟩⟩⟩⟩⟩⟩⟩⟩⟩⟩⟩⟩⟩⟩⟩⟩⟩⟩⟩⟩⟩⟩⟩⟩⟩⟩⟩⟩⟩⟩⟩⟩⟩⟩⟩⟩⟩⟩⟩⟩⟩⟩⟩⟩⟩⟩⟩⟩⟩⟩⟩⟩⟩⟩⟩⟩⟩⟩⟩⟩⟩⟩⟩⟩⟩⟩⟩⟩⟩⟩⟩⟩⟩⟩⟩⟩⟩⟩⟩⟩⟩⟩⟩⟩⟩⟩⟩⟩⟩⟩⟩⟩⟩⟩⟩⟩⟩⟩⟩⟩⟩⟩⟩⟩
def a_fl : List (Nat × Nat × Nat × Nat) := [(1, 9, 1, 0), (11, 105, 1, 0), (5, 135, 1, 0), (1, 15, 1, 1), (5, 139, 1, 1), (1, 18, 1, 2), (1, 21, 1, 3), (1, 24, 1, 4), (1, 31, 1, 5), (11, 94, 1, 5), (1, 27, 1, 6), (11, 82, 1, 6), (7, 119, 1, 6), (5, 197, 1, 6), (8, 11, 8, 0), (8, 17, 8, 1), (8, 21, 8, 2), (8, 24, 8, 3), (11, 202, 8, 3), (9, 9, 9, 0), (9, 15, 9, 1), (9, 18, 9, 2), (11, 195, 9, 2), (9, 24, 9, 3), (9, 33, 9, 4), (11, 221, 9, 4), (5, 9, 5, 0), (5, 15, 5, 1), (5, 21, 5, 2), (5, 27, 5, 3), (5, 35, 5, 4), (3, 44, 5, 4), (4, 44, 5, 4), (7, 49, 5, 4), (6, 47, 5, 4), (11, 142, 5, 4), (5, 38, 5, 5), (3, 97, 5, 5), (7, 83, 5, 5), (11, 111, 5, 5), (5, 31, 5, 6), (6, 9, 6, 0), (6, 15, 6, 1), (6, 19, 6, 2), (6, 22, 6, 3), (6, 25, 6, 4), (6, 40, 6, 5), (7, 9, 7, 0), (7, 15, 7, 1), (7, 21, 7, 2), (7, 25, 7, 3), (7, 29, 7, 4), (7, 32, 7, 5), (7, 42, 7, 6), (7, 39, 7, 7), (11, 292, 7, 7), (7, 35, 7, 8), (3, 9, 3, 0), (3, 17, 3, 1), (3, 21, 3, 2), (3, 25, 3, 3), (3, 28, 3, 4), (3, 31, 3, 5), (3, 34, 3, 6), (3, 37, 3, 7), (3, 40, 3, 8), (3, 65, 3, 9), (11, 319, 3, 9), (4, 9, 4, 0), (4, 15, 4, 1), (4, 19, 4, 2), (4, 24, 4, 3), (4, 28, 4, 4), (4, 31, 4, 5), (4, 34, 4, 6), (4, 37, 4, 7), (11, 12, 11, 0), (11, 19, 11, 1), (11, 26, 11, 2), (11, 44, 11, 3), (11, 35, 11, 4), (11, 53, 11, 5), (11, 60, 11, 6), (11, 67, 11, 7), (11, 71, 11, 8), (11, 75, 11, 9), (11, 360, 11, 10), (11, 131, 11, 11), (2, 9, 2, 0), (5, 126, 2, 0), (2, 15, 2, 1), (5, 174, 2, 1), (2, 18, 2, 2), (5, 150, 2, 2), (2, 22, 2, 3), (4, 121, 2, 3), (11, 325, 2, 3), (2, 25, 2, 4), (11, 357, 2, 4), (2, 28, 2, 5), (2, 31, 2, 6), (0, 9, 0, 0), (8, 36, 0, 0), (6, 34, 0, 0), (4, 84, 0, 0), (11, 171, 0, 0), (0, 15, 0, 1), (8, 39, 0, 1), (7, 97, 0, 1), (11, 174, 0, 1), (0, 18, 0, 2), (8, 42, 0, 2), (3, 87, 0, 2), (4, 69, 0, 2), (7, 80, 0, 2), (5, 64, 0, 2), (11, 177, 0, 2), (0, 21, 0, 3), (5, 129, 0, 3), (4, 41, 0, 4), (5, 44, 0, 4), (7, 77, 0, 4), (6, 28, 0, 4), (3, 126, 0, 4), (2, 43, 0, 4), (0, 68, 0, 4), (0, 45, 0, 5), (8, 31, 0, 5), (3, 81, 0, 5), (7, 94, 0, 5), (11, 168, 0, 5), (5, 177, 0, 5), (0, 33, 0, 6), (5, 124, 0, 6), (0, 36, 0, 7), (5, 142, 0, 7), (0, 39, 0, 8), (5, 147, 0, 8), (0, 42, 0, 9), (8, 45, 0, 9), (11, 180, 0, 9), (0, 48, 0, 10), (3, 84, 0, 10), (5, 180, 0, 10), (0, 51, 0, 11), (5, 187, 0, 11), (0, 24, 0, 12), (3, 72, 0, 12), (8, 48, 0, 12), (6, 59, 0, 12), (11, 264, 0, 12), (0, 27, 0, 13), (4, 72, 0, 13), (7, 113, 0, 13), (8, 88, 0, 13), (11, 183, 0, 13), (5, 204, 0, 13), (0, 30, 0, 14), (4, 74, 0, 14), (2, 34, 0, 14), (7, 100, 0, 14), (8, 82, 0, 14), (5, 67, 0, 14), (11, 186, 0, 14), (7, 62, 0, 15), (5, 60, 0, 15), (11, 160, 0, 15), (11, 330, 0, 16), (10, 9, 10, 0), (8, 65, 10, 0), (10, 15, 10, 1), (8, 79, 10, 1), (10, 18, 10, 2), (10, 22, 10, 3), (11, 233, 10, 3), (11, 228, 10, 4), (12, 186, 12, 0), (12, 7, 12, 1), (12, 197, 12, 2), (12, 13, 12, 3), (12, 16, 12, 4), (12, 19, 12, 5), (12, 180, 12, 6), (12, 22, 12, 7), (12, 25, 12, 8), (12, 28, 12, 9), (12, 32, 12, 10), (12, 204, 12, 11), (12, 207, 12, 12), (12, 211, 12, 13), (12, 214, 12, 14), (12, 217, 12, 15), (12, 220, 12, 16), (12, 183, 12, 17), (12, 35, 12, 18), (12, 38, 12, 19), (12, 41, 12, 20), (12, 44, 12, 21), (12, 47, 12, 22), (12, 50, 12, 23), (12, 53, 12, 24), (12, 56, 12, 25), (12, 59, 12, 26), (12, 62, 12, 27), (12, 65, 12, 28), (12, 68, 12, 29), (12, 72, 12, 30), (12, 75, 12, 31), (12, 78, 12, 32), (12, 81, 12, 33), (12, 84, 12, 34), (12, 230, 12, 35), (12, 88, 12, 36), (12, 91, 12, 37), (12, 94, 12, 38), (12, 97, 12, 39), (12, 257, 12, 40), (12, 312, 12, 41), (12, 100, 12, 42), (12, 103, 12, 43), (12, 106, 12, 44), (12, 109, 12, 45), (12, 268, 12, 46), (12, 271, 12, 47), (12, 265, 12, 48), (12, 262, 12, 49), (12, 281, 12, 50), (12, 299, 12, 51), (12, 112, 12, 52), (12, 115, 12, 53), (12, 296, 12, 54), (12, 118, 12, 55), (12, 290, 12, 56), (12, 121, 12, 57), (12, 124, 12, 58), (12, 127, 12, 59), (12, 130, 12, 60), (12, 402, 12, 61), (12, 133, 12, 62), (12, 136, 12, 63), (12, 387, 12, 64), (12, 139, 12, 65), (12, 409, 12, 66), (12, 142, 12, 67), (12, 145, 12, 68), (12, 148, 12, 69), (12, 151, 12, 70), (12, 154, 12, 71), (12, 157, 12, 72), (12, 160, 12, 73), (12, 427, 12, 74), (12, 163, 12, 75), (12, 166, 12, 76), (12, 169, 12, 77), (12, 172, 12, 78), (12, 436, 12, 79)]
def a_okF (q : Nat × Nat × Nat × Nat) : Prop := ∃ r, vwCl[q.2.2.1]? = some r ∧ q.2.2.2 < r.2.2 ∧ Jvm.Cond.fieldLink (a_own q.1) q.2.1 (r.2.1 q.2.2.2).1 (r.2.1 q.2.2.2).2.1 (r.2.1 q.2.2.2).2.2.1 ∈ a_tb
theorem a_okF0 : a_okF (1, 9, 1, 0) := ⟨_, rfl, by decide +kernel, a_t1 (List.mem_of_getElem? (i := 31) rfl) rfl⟩
theorem a_okF1 : a_okF (11, 105, 1, 0) := ⟨_, rfl, by decide +kernel, a_t1 (List.mem_of_getElem? (i := 32) rfl) rfl⟩
theorem a_okF2 : a_okF (5, 135, 1, 0) := ⟨_, rfl, by decide +kernel, a_t1 (List.mem_of_getElem? (i := 33) rfl) rfl⟩
theorem a_okF3 : a_okF (1, 15, 1, 1) := ⟨_, rfl, by decide +kernel, a_t1 (List.mem_of_getElem? (i := 34) rfl) rfl⟩
theorem a_okF4 : a_okF (5, 139, 1, 1) := ⟨_, rfl, by decide +kernel, a_t1 (List.mem_of_getElem? (i := 35) rfl) rfl⟩
theorem a_okF5 : a_okF (1, 18, 1, 2) := ⟨_, rfl, by decide +kernel, a_t1 (List.mem_of_getElem? (i := 36) rfl) rfl⟩
theorem a_okF6 : a_okF (1, 21, 1, 3) := ⟨_, rfl, by decide +kernel, a_t1 (List.mem_of_getElem? (i := 37) rfl) rfl⟩
theorem a_okF7 : a_okF (1, 24, 1, 4) := ⟨_, rfl, by decide +kernel, a_t1 (List.mem_of_getElem? (i := 38) rfl) rfl⟩
theorem a_okF8 : a_okF (1, 31, 1, 5) := ⟨_, rfl, by decide +kernel, a_t1 (List.mem_of_getElem? (i := 39) rfl) rfl⟩
theorem a_okF9 : a_okF (11, 94, 1, 5) := ⟨_, rfl, by decide +kernel, a_t1 (List.mem_of_getElem? (i := 40) rfl) rfl⟩
theorem a_okF10 : a_okF (1, 27, 1, 6) := ⟨_, rfl, by decide +kernel, a_t1 (List.mem_of_getElem? (i := 41) rfl) rfl⟩
theorem a_okF11 : a_okF (11, 82, 1, 6) := ⟨_, rfl, by decide +kernel, a_t1 (List.mem_of_getElem? (i := 42) rfl) rfl⟩
theorem a_okF12 : a_okF (7, 119, 1, 6) := ⟨_, rfl, by decide +kernel, a_t1 (List.mem_of_getElem? (i := 43) rfl) rfl⟩
theorem a_okF13 : a_okF (5, 197, 1, 6) := ⟨_, rfl, by decide +kernel, a_t1 (List.mem_of_getElem? (i := 44) rfl) rfl⟩
theorem a_okF14 : a_okF (8, 11, 8, 0) := ⟨_, rfl, by decide +kernel, a_t1 (List.mem_of_getElem? (i := 69) rfl) rfl⟩
theorem a_okF15 : a_okF (8, 17, 8, 1) := ⟨_, rfl, by decide +kernel, a_t1 (List.mem_of_getElem? (i := 70) rfl) rfl⟩
theorem a_okF16 : a_okF (8, 21, 8, 2) := ⟨_, rfl, by decide +kernel, a_t1 (List.mem_of_getElem? (i := 71) rfl) rfl⟩
theorem a_okF17 : a_okF (8, 24, 8, 3) := ⟨_, rfl, by decide +kernel, a_t1 (List.mem_of_getElem? (i := 72) rfl) rfl⟩
theorem a_okF18 : a_okF (11, 202, 8, 3) := ⟨_, rfl, by decide +kernel, a_t1 (List.mem_of_getElem? (i := 73) rfl) rfl⟩
theorem a_okF19 : a_okF (9, 9, 9, 0) := ⟨_, rfl, by decide +kernel, a_t1 (List.mem_of_getElem? (i := 89) rfl) rfl⟩
theorem a_okF20 : a_okF (9, 15, 9, 1) := ⟨_, rfl, by decide +kernel, a_t1 (List.mem_of_getElem? (i := 90) rfl) rfl⟩
theorem a_okF21 : a_okF (9, 18, 9, 2) := ⟨_, rfl, by decide +kernel, a_t1 (List.mem_of_getElem? (i := 91) rfl) rfl⟩
theorem a_okF22 : a_okF (11, 195, 9, 2) := ⟨_, rfl, by decide +kernel, a_t1 (List.mem_of_getElem? (i := 92) rfl) rfl⟩
theorem a_okF23 : a_okF (9, 24, 9, 3) := ⟨_, rfl, by decide +kernel, a_t1 (List.mem_of_getElem? (i := 93) rfl) rfl⟩
theorem a_okF24 : a_okF (9, 33, 9, 4) := ⟨_, rfl, by decide +kernel, a_t1 (List.mem_of_getElem? (i := 94) rfl) rfl⟩
theorem a_okF25 : a_okF (11, 221, 9, 4) := ⟨_, rfl, by decide +kernel, a_t1 (List.mem_of_getElem? (i := 95) rfl) rfl⟩
theorem a_okF26 : a_okF (5, 9, 5, 0) := ⟨_, rfl, by decide +kernel, a_t1 (List.mem_of_getElem? (i := 117) rfl) rfl⟩
theorem a_okF27 : a_okF (5, 15, 5, 1) := ⟨_, rfl, by decide +kernel, a_t1 (List.mem_of_getElem? (i := 118) rfl) rfl⟩
theorem a_okF28 : a_okF (5, 21, 5, 2) := ⟨_, rfl, by decide +kernel, a_t1 (List.mem_of_getElem? (i := 119) rfl) rfl⟩
theorem a_okF29 : a_okF (5, 27, 5, 3) := ⟨_, rfl, by decide +kernel, a_t1 (List.mem_of_getElem? (i := 120) rfl) rfl⟩
theorem a_okF30 : a_okF (5, 35, 5, 4) := ⟨_, rfl, by decide +kernel, a_t1 (List.mem_of_getElem? (i := 121) rfl) rfl⟩
theorem a_okF31 : a_okF (3, 44, 5, 4) := ⟨_, rfl, by decide +kernel, a_t1 (List.mem_of_getElem? (i := 122) rfl) rfl⟩
theorem a_okF32 : a_okF (4, 44, 5, 4) := ⟨_, rfl, by decide +kernel, a_t1 (List.mem_of_getElem? (i := 123) rfl) rfl⟩
theorem a_okF33 : a_okF (7, 49, 5, 4) := ⟨_, rfl, by decide +kernel, a_t1 (List.mem_of_getElem? (i := 124) rfl) rfl⟩
theorem a_okF34 : a_okF (6, 47, 5, 4) := ⟨_, rfl, by decide +kernel, a_t1 (List.mem_of_getElem? (i := 125) rfl) rfl⟩
theorem a_okF35 : a_okF (11, 142, 5, 4) := ⟨_, rfl, by decide +kernel, a_t1 (List.mem_of_getElem? (i := 126) rfl) rfl⟩
theorem a_okF36 : a_okF (5, 38, 5, 5) := ⟨_, rfl, by decide +kernel, a_t1 (List.mem_of_getElem? (i := 127) rfl) rfl⟩
theorem a_okF37 : a_okF (3, 97, 5, 5) := ⟨_, rfl, by decide +kernel, a_t1 (List.mem_of_getElem? (i := 128) rfl) rfl⟩
theorem a_okF38 : a_okF (7, 83, 5, 5) := ⟨_, rfl, by decide +kernel, a_t1 (List.mem_of_getElem? (i := 129) rfl) rfl⟩
theorem a_okF39 : a_okF (11, 111, 5, 5) := ⟨_, rfl, by decide +kernel, a_t1 (List.mem_of_getElem? (i := 130) rfl) rfl⟩
theorem a_okF40 : a_okF (5, 31, 5, 6) := ⟨_, rfl, by decide +kernel, a_t1 (List.mem_of_getElem? (i := 131) rfl) rfl⟩
theorem a_okF41 : a_okF (6, 9, 6, 0) := ⟨_, rfl, by decide +kernel, a_t1 (List.mem_of_getElem? (i := 153) rfl) rfl⟩
theorem a_okF42 : a_okF (6, 15, 6, 1) := ⟨_, rfl, by decide +kernel, a_t1 (List.mem_of_getElem? (i := 154) rfl) rfl⟩
theorem a_okF43 : a_okF (6, 19, 6, 2) := ⟨_, rfl, by decide +kernel, a_t1 (List.mem_of_getElem? (i := 155) rfl) rfl⟩
theorem a_okF44 : a_okF (6, 22, 6, 3) := ⟨_, rfl, by decide +kernel, a_t1 (List.mem_of_getElem? (i := 156) rfl) rfl⟩
theorem a_okF45 : a_okF (6, 25, 6, 4) := ⟨_, rfl, by decide +kernel, a_t1 (List.mem_of_getElem? (i := 157) rfl) rfl⟩
theorem a_okF46 : a_okF (6, 40, 6, 5) := ⟨_, rfl, by decide +kernel, a_t1 (List.mem_of_getElem? (i := 158) rfl) rfl⟩
theorem a_okF47 : a_okF (7, 9, 7, 0) := ⟨_, rfl, by decide +kernel, a_t1 (List.mem_of_getElem? (i := 179) rfl) rfl⟩
theorem a_okF48 : a_okF (7, 15, 7, 1) := ⟨_, rfl, by decide +kernel, a_t1 (List.mem_of_getElem? (i := 180) rfl) rfl⟩
theorem a_okF49 : a_okF (7, 21, 7, 2) := ⟨_, rfl, by decide +kernel, a_t1 (List.mem_of_getElem? (i := 181) rfl) rfl⟩
theorem a_okF50 : a_okF (7, 25, 7, 3) := ⟨_, rfl, by decide +kernel, a_t1 (List.mem_of_getElem? (i := 182) rfl) rfl⟩
theorem a_okF51 : a_okF (7, 29, 7, 4) := ⟨_, rfl, by decide +kernel, a_t1 (List.mem_of_getElem? (i := 183) rfl) rfl⟩
theorem a_okF52 : a_okF (7, 32, 7, 5) := ⟨_, rfl, by decide +kernel, a_t1 (List.mem_of_getElem? (i := 184) rfl) rfl⟩
theorem a_okF53 : a_okF (7, 42, 7, 6) := ⟨_, rfl, by decide +kernel, a_t1 (List.mem_of_getElem? (i := 185) rfl) rfl⟩
theorem a_okF54 : a_okF (7, 39, 7, 7) := ⟨_, rfl, by decide +kernel, a_t1 (List.mem_of_getElem? (i := 186) rfl) rfl⟩
theorem a_okF55 : a_okF (11, 292, 7, 7) := ⟨_, rfl, by decide +kernel, a_t1 (List.mem_of_getElem? (i := 187) rfl) rfl⟩
theorem a_okF56 : a_okF (7, 35, 7, 8) := ⟨_, rfl, by decide +kernel, a_t1 (List.mem_of_getElem? (i := 188) rfl) rfl⟩
theorem a_okF57 : a_okF (3, 9, 3, 0) := ⟨_, rfl, by decide +kernel, a_t1 (List.mem_of_getElem? (i := 215) rfl) rfl⟩
theorem a_okF58 : a_okF (3, 17, 3, 1) := ⟨_, rfl, by decide +kernel, a_t1 (List.mem_of_getElem? (i := 216) rfl) rfl⟩
theorem a_okF59 : a_okF (3, 21, 3, 2) := ⟨_, rfl, by decide +kernel, a_t1 (List.mem_of_getElem? (i := 217) rfl) rfl⟩
theorem a_okF60 : a_okF (3, 25, 3, 3) := ⟨_, rfl, by decide +kernel, a_t1 (List.mem_of_getElem? (i := 218) rfl) rfl⟩
theorem a_okF61 : a_okF (3, 28, 3, 4) := ⟨_, rfl, by decide +kernel, a_t1 (List.mem_of_getElem? (i := 219) rfl) rfl⟩
theorem a_okF62 : a_okF (3, 31, 3, 5) := ⟨_, rfl, by decide +kernel, a_t1 (List.mem_of_getElem? (i := 220) rfl) rfl⟩
theorem a_okF63 : a_okF (3, 34, 3, 6) := ⟨_, rfl, by decide +kernel, a_t1 (List.mem_of_getElem? (i := 221) rfl) rfl⟩
theorem a_okF64 : a_okF (3, 37, 3, 7) := ⟨_, rfl, by decide +kernel, a_t1 (List.mem_of_getElem? (i := 222) rfl) rfl⟩
theorem a_okF65 : a_okF (3, 40, 3, 8) := ⟨_, rfl, by decide +kernel, a_t1 (List.mem_of_getElem? (i := 223) rfl) rfl⟩
theorem a_okF66 : a_okF (3, 65, 3, 9) := ⟨_, rfl, by decide +kernel, a_t1 (List.mem_of_getElem? (i := 224) rfl) rfl⟩
theorem a_okF67 : a_okF (11, 319, 3, 9) := ⟨_, rfl, by decide +kernel, a_t1 (List.mem_of_getElem? (i := 225) rfl) rfl⟩
theorem a_okF68 : a_okF (4, 9, 4, 0) := ⟨_, rfl, by decide +kernel, a_t2 (List.mem_of_getElem? (i := 14) rfl) rfl⟩
theorem a_okF69 : a_okF (4, 15, 4, 1) := ⟨_, rfl, by decide +kernel, a_t2 (List.mem_of_getElem? (i := 15) rfl) rfl⟩
theorem a_okF70 : a_okF (4, 19, 4, 2) := ⟨_, rfl, by decide +kernel, a_t2 (List.mem_of_getElem? (i := 16) rfl) rfl⟩
theorem a_okF71 : a_okF (4, 24, 4, 3) := ⟨_, rfl, by decide +kernel, a_t2 (List.mem_of_getElem? (i := 17) rfl) rfl⟩
theorem a_okF72 : a_okF (4, 28, 4, 4) := ⟨_, rfl, by decide +kernel, a_t2 (List.mem_of_getElem? (i := 18) rfl) rfl⟩
theorem a_okF73 : a_okF (4, 31, 4, 5) := ⟨_, rfl, by decide +kernel, a_t2 (List.mem_of_getElem? (i := 19) rfl) rfl⟩
theorem a_okF74 : a_okF (4, 34, 4, 6) := ⟨_, rfl, by decide +kernel, a_t2 (List.mem_of_getElem? (i := 20) rfl) rfl⟩
theorem a_okF75 : a_okF (4, 37, 4, 7) := ⟨_, rfl, by decide +kernel, a_t2 (List.mem_of_getElem? (i := 21) rfl) rfl⟩
theorem a_okF76 : a_okF (11, 12, 11, 0) := ⟨_, rfl, by decide +kernel, a_t2 (List.mem_of_getElem? (i := 39) rfl) rfl⟩
theorem a_okF77 : a_okF (11, 19, 11, 1) := ⟨_, rfl, by decide +kernel, a_t2 (List.mem_of_getElem? (i := 40) rfl) rfl⟩
theorem a_okF78 : a_okF (11, 26, 11, 2) := ⟨_, rfl, by decide +kernel, a_t2 (List.mem_of_getElem? (i := 41) rfl) rfl⟩
theorem a_okF79 : a_okF (11, 44, 11, 3) := ⟨_, rfl, by decide +kernel, a_t2 (List.mem_of_getElem? (i := 42) rfl) rfl⟩
theorem a_okF80 : a_okF (11, 35, 11, 4) := ⟨_, rfl, by decide +kernel, a_t2 (List.mem_of_getElem? (i := 43) rfl) rfl⟩
theorem a_okF81 : a_okF (11, 53, 11, 5) := ⟨_, rfl, by decide +kernel, a_t2 (List.mem_of_getElem? (i := 44) rfl) rfl⟩
theorem a_okF82 : a_okF (11, 60, 11, 6) := ⟨_, rfl, by decide +kernel, a_t2 (List.mem_of_getElem? (i := 45) rfl) rfl⟩
theorem a_okF83 : a_okF (11, 67, 11, 7) := ⟨_, rfl, by decide +kernel, a_t2 (List.mem_of_getElem? (i := 46) rfl) rfl⟩
theorem a_okF84 : a_okF (11, 71, 11, 8) := ⟨_, rfl, by decide +kernel, a_t2 (List.mem_of_getElem? (i := 47) rfl) rfl⟩
theorem a_okF85 : a_okF (11, 75, 11, 9) := ⟨_, rfl, by decide +kernel, a_t2 (List.mem_of_getElem? (i := 48) rfl) rfl⟩
theorem a_okF86 : a_okF (11, 360, 11, 10) := ⟨_, rfl, by decide +kernel, a_t2 (List.mem_of_getElem? (i := 49) rfl) rfl⟩
theorem a_okF87 : a_okF (11, 131, 11, 11) := ⟨_, rfl, by decide +kernel, a_t2 (List.mem_of_getElem? (i := 50) rfl) rfl⟩
theorem a_okF88 : a_okF (2, 9, 2, 0) := ⟨_, rfl, by decide +kernel, a_t2 (List.mem_of_getElem? (i := 131) rfl) rfl⟩
theorem a_okF89 : a_okF (5, 126, 2, 0) := ⟨_, rfl, by decide +kernel, a_t2 (List.mem_of_getElem? (i := 132) rfl) rfl⟩
theorem a_okF90 : a_okF (2, 15, 2, 1) := ⟨_, rfl, by decide +kernel, a_t2 (List.mem_of_getElem? (i := 133) rfl) rfl⟩
theorem a_okF91 : a_okF (5, 174, 2, 1) := ⟨_, rfl, by decide +kernel, a_t2 (List.mem_of_getElem? (i := 134) rfl) rfl⟩
theorem a_okF92 : a_okF (2, 18, 2, 2) := ⟨_, rfl, by decide +kernel, a_t2 (List.mem_of_getElem? (i := 135) rfl) rfl⟩
theorem a_okF93 : a_okF (5, 150, 2, 2) := ⟨_, rfl, by decide +kernel, a_t2 (List.mem_of_getElem? (i := 136) rfl) rfl⟩
theorem a_okF94 : a_okF (2, 22, 2, 3) := ⟨_, rfl, by decide +kernel, a_t2 (List.mem_of_getElem? (i := 137) rfl) rfl⟩
theorem a_okF95 : a_okF (4, 121, 2, 3) := ⟨_, rfl, by decide +kernel, a_t2 (List.mem_of_getElem? (i := 138) rfl) rfl⟩
theorem a_okF96 : a_okF (11, 325, 2, 3) := ⟨_, rfl, by decide +kernel, a_t2 (List.mem_of_getElem? (i := 139) rfl) rfl⟩
theorem a_okF97 : a_okF (2, 25, 2, 4) := ⟨_, rfl, by decide +kernel, a_t2 (List.mem_of_getElem? (i := 140) rfl) rfl⟩
theorem a_okF98 : a_okF (11, 357, 2, 4) := ⟨_, rfl, by decide +kernel, a_t2 (List.mem_of_getElem? (i := 141) rfl) rfl⟩
theorem a_okF99 : a_okF (2, 28, 2, 5) := ⟨_, rfl, by decide +kernel, a_t2 (List.mem_of_getElem? (i := 142) rfl) rfl⟩
theorem a_okF100 : a_okF (2, 31, 2, 6) := ⟨_, rfl, by decide +kernel, a_t2 (List.mem_of_getElem? (i := 143) rfl) rfl⟩
theorem a_okF101 : a_okF (0, 9, 0, 0) := ⟨_, rfl, by decide +kernel, a_t2 (List.mem_of_getElem? (i := 218) rfl) rfl⟩
theorem a_okF102 : a_okF (8, 36, 0, 0) := ⟨_, rfl, by decide +kernel, a_t2 (List.mem_of_getElem? (i := 219) rfl) rfl⟩
theorem a_okF103 : a_okF (6, 34, 0, 0) := ⟨_, rfl, by decide +kernel, a_t2 (List.mem_of_getElem? (i := 220) rfl) rfl⟩
theorem a_okF104 : a_okF (4, 84, 0, 0) := ⟨_, rfl, by decide +kernel, a_t2 (List.mem_of_getElem? (i := 221) rfl) rfl⟩
theorem a_okF105 : a_okF (11, 171, 0, 0) := ⟨_, rfl, by decide +kernel, a_t2 (List.mem_of_getElem? (i := 222) rfl) rfl⟩
theorem a_okF106 : a_okF (0, 15, 0, 1) := ⟨_, rfl, by decide +kernel, a_t2 (List.mem_of_getElem? (i := 223) rfl) rfl⟩
theorem a_okF107 : a_okF (8, 39, 0, 1) := ⟨_, rfl, by decide +kernel, a_t2 (List.mem_of_getElem? (i := 224) rfl) rfl⟩
theorem a_okF108 : a_okF (7, 97, 0, 1) := ⟨_, rfl, by decide +kernel, a_t2 (List.mem_of_getElem? (i := 225) rfl) rfl⟩
theorem a_okF109 : a_okF (11, 174, 0, 1) := ⟨_, rfl, by decide +kernel, a_t2 (List.mem_of_getElem? (i := 226) rfl) rfl⟩
theorem a_okF110 : a_okF (0, 18, 0, 2) := ⟨_, rfl, by decide +kernel, a_t2 (List.mem_of_getElem? (i := 227) rfl) rfl⟩
theorem a_okF111 : a_okF (8, 42, 0, 2) := ⟨_, rfl, by decide +kernel, a_t2 (List.mem_of_getElem? (i := 228) rfl) rfl⟩
theorem a_okF112 : a_okF (3, 87, 0, 2) := ⟨_, rfl, by decide +kernel, a_t2 (List.mem_of_getElem? (i := 229) rfl) rfl⟩
theorem a_okF113 : a_okF (4, 69, 0, 2) := ⟨_, rfl, by decide +kernel, a_t2 (List.mem_of_getElem? (i := 230) rfl) rfl⟩
theorem a_okF114 : a_okF (7, 80, 0, 2) := ⟨_, rfl, by decide +kernel, a_t2 (List.mem_of_getElem? (i := 231) rfl) rfl⟩
theorem a_okF115 : a_okF (5, 64, 0, 2) := ⟨_, rfl, by decide +kernel, a_t2 (List.mem_of_getElem? (i := 232) rfl) rfl⟩
theorem a_okF116 : a_okF (11, 177, 0, 2) := ⟨_, rfl, by decide +kernel, a_t2 (List.mem_of_getElem? (i := 233) rfl) rfl⟩
theorem a_okF117 : a_okF (0, 21, 0, 3) := ⟨_, rfl, by decide +kernel, a_t2 (List.mem_of_getElem? (i := 234) rfl) rfl⟩
theorem a_okF118 : a_okF (5, 129, 0, 3) := ⟨_, rfl, by decide +kernel, a_t2 (List.mem_of_getElem? (i := 235) rfl) rfl⟩
theorem a_okF119 : a_okF (4, 41, 0, 4) := ⟨_, rfl, by decide +kernel, a_t2 (List.mem_of_getElem? (i := 236) rfl) rfl⟩
theorem a_okF120 : a_okF (5, 44, 0, 4) := ⟨_, rfl, by decide +kernel, a_t2 (List.mem_of_getElem? (i := 237) rfl) rfl⟩
theorem a_okF121 : a_okF (7, 77, 0, 4) := ⟨_, rfl, by decide +kernel, a_t2 (List.mem_of_getElem? (i := 238) rfl) rfl⟩
theorem a_okF122 : a_okF (6, 28, 0, 4) := ⟨_, rfl, by decide +kernel, a_t2 (List.mem_of_getElem? (i := 239) rfl) rfl⟩
theorem a_okF123 : a_okF (3, 126, 0, 4) := ⟨_, rfl, by decide +kernel, a_t3 (List.mem_of_getElem? (i := 0) rfl) rfl⟩
theorem a_okF124 : a_okF (2, 43, 0, 4) := ⟨_, rfl, by decide +kernel, a_t3 (List.mem_of_getElem? (i := 1) rfl) rfl⟩
theorem a_okF125 : a_okF (0, 68, 0, 4) := ⟨_, rfl, by decide +kernel, a_t3 (List.mem_of_getElem? (i := 2) rfl) rfl⟩
theorem a_okF126 : a_okF (0, 45, 0, 5) := ⟨_, rfl, by decide +kernel, a_t3 (List.mem_of_getElem? (i := 3) rfl) rfl⟩
theorem a_okF127 : a_okF (8, 31, 0, 5) := ⟨_, rfl, by decide +kernel, a_t3 (List.mem_of_getElem? (i := 4) rfl) rfl⟩
theorem a_okF128 : a_okF (3, 81, 0, 5) := ⟨_, rfl, by decide +kernel, a_t3 (List.mem_of_getElem? (i := 5) rfl) rfl⟩
theorem a_okF129 : a_okF (7, 94, 0, 5) := ⟨_, rfl, by decide +kernel, a_t3 (List.mem_of_getElem? (i := 6) rfl) rfl⟩
theorem a_okF130 : a_okF (11, 168, 0, 5) := ⟨_, rfl, by decide +kernel, a_t3 (List.mem_of_getElem? (i := 7) rfl) rfl⟩
theorem a_okF131 : a_okF (5, 177, 0, 5) := ⟨_, rfl, by decide +kernel, a_t3 (List.mem_of_getElem? (i := 8) rfl) rfl⟩
theorem a_okF132 : a_okF (0, 33, 0, 6) := ⟨_, rfl, by decide +kernel, a_t3 (List.mem_of_getElem? (i := 9) rfl) rfl⟩
theorem a_okF133 : a_okF (5, 124, 0, 6) := ⟨_, rfl, by decide +kernel, a_t3 (List.mem_of_getElem? (i := 10) rfl) rfl⟩
theorem a_okF134 : a_okF (0, 36, 0, 7) := ⟨_, rfl, by decide +kernel, a_t3 (List.mem_of_getElem? (i := 11) rfl) rfl⟩
theorem a_okF135 : a_okF (5, 142, 0, 7) := ⟨_, rfl, by decide +kernel, a_t3 (List.mem_of_getElem? (i := 12) rfl) rfl⟩
theorem a_okF136 : a_okF (0, 39, 0, 8) := ⟨_, rfl, by decide +kernel, a_t3 (List.mem_of_getElem? (i := 13) rfl) rfl⟩
theorem a_okF137 : a_okF (5, 147, 0, 8) := ⟨_, rfl, by decide +kernel, a_t3 (List.mem_of_getElem? (i := 14) rfl) rfl⟩
theorem a_okF138 : a_okF (0, 42, 0, 9) := ⟨_, rfl, by decide +kernel, a_t3 (List.mem_of_getElem? (i := 15) rfl) rfl⟩
theorem a_okF139 : a_okF (8, 45, 0, 9) := ⟨_, rfl, by decide +kernel, a_t3 (List.mem_of_getElem? (i := 16) rfl) rfl⟩
theorem a_okF140 : a_okF (11, 180, 0, 9) := ⟨_, rfl, by decide +kernel, a_t3 (List.mem_of_getElem? (i := 17) rfl) rfl⟩
theorem a_okF141 : a_okF (0, 48, 0, 10) := ⟨_, rfl, by decide +kernel, a_t3 (List.mem_of_getElem? (i := 18) rfl) rfl⟩
theorem a_okF142 : a_okF (3, 84, 0, 10) := ⟨_, rfl, by decide +kernel, a_t3 (List.mem_of_getElem? (i := 19) rfl) rfl⟩
theorem a_okF143 : a_okF (5, 180, 0, 10) := ⟨_, rfl, by decide +kernel, a_t3 (List.mem_of_getElem? (i := 20) rfl) rfl⟩
theorem a_okF144 : a_okF (0, 51, 0, 11) := ⟨_, rfl, by decide +kernel, a_t3 (List.mem_of_getElem? (i := 21) rfl) rfl⟩
theorem a_okF145 : a_okF (5, 187, 0, 11) := ⟨_, rfl, by decide +kernel, a_t3 (List.mem_of_getElem? (i := 22) rfl) rfl⟩
theorem a_okF146 : a_okF (0, 24, 0, 12) := ⟨_, rfl, by decide +kernel, a_t3 (List.mem_of_getElem? (i := 23) rfl) rfl⟩
theorem a_okF147 : a_okF (3, 72, 0, 12) := ⟨_, rfl, by decide +kernel, a_t3 (List.mem_of_getElem? (i := 24) rfl) rfl⟩
theorem a_okF148 : a_okF (8, 48, 0, 12) := ⟨_, rfl, by decide +kernel, a_t3 (List.mem_of_getElem? (i := 25) rfl) rfl⟩
theorem a_okF149 : a_okF (6, 59, 0, 12) := ⟨_, rfl, by decide +kernel, a_t3 (List.mem_of_getElem? (i := 26) rfl) rfl⟩
theorem a_okF150 : a_okF (11, 264, 0, 12) := ⟨_, rfl, by decide +kernel, a_t3 (List.mem_of_getElem? (i := 27) rfl) rfl⟩
theorem a_okF151 : a_okF (0, 27, 0, 13) := ⟨_, rfl, by decide +kernel, a_t3 (List.mem_of_getElem? (i := 28) rfl) rfl⟩
theorem a_okF152 : a_okF (4, 72, 0, 13) := ⟨_, rfl, by decide +kernel, a_t3 (List.mem_of_getElem? (i := 29) rfl) rfl⟩
theorem a_okF153 : a_okF (7, 113, 0, 13) := ⟨_, rfl, by decide +kernel, a_t3 (List.mem_of_getElem? (i := 30) rfl) rfl⟩
theorem a_okF154 : a_okF (8, 88, 0, 13) := ⟨_, rfl, by decide +kernel, a_t3 (List.mem_of_getElem? (i := 31) rfl) rfl⟩
theorem a_okF155 : a_okF (11, 183, 0, 13) := ⟨_, rfl, by decide +kernel, a_t3 (List.mem_of_getElem? (i := 32) rfl) rfl⟩
theorem a_okF156 : a_okF (5, 204, 0, 13) := ⟨_, rfl, by decide +kernel, a_t3 (List.mem_of_getElem? (i := 33) rfl) rfl⟩
theorem a_okF157 : a_okF (0, 30, 0, 14) := ⟨_, rfl, by decide +kernel, a_t3 (List.mem_of_getElem? (i := 34) rfl) rfl⟩
theorem a_okF158 : a_okF (4, 74, 0, 14) := ⟨_, rfl, by decide +kernel, a_t3 (List.mem_of_getElem? (i := 35) rfl) rfl⟩
theorem a_okF159 : a_okF (2, 34, 0, 14) := ⟨_, rfl, by decide +kernel, a_t3 (List.mem_of_getElem? (i := 36) rfl) rfl⟩
theorem a_okF160 : a_okF (7, 100, 0, 14) := ⟨_, rfl, by decide +kernel, a_t3 (List.mem_of_getElem? (i := 37) rfl) rfl⟩
theorem a_okF161 : a_okF (8, 82, 0, 14) := ⟨_, rfl, by decide +kernel, a_t3 (List.mem_of_getElem? (i := 38) rfl) rfl⟩
theorem a_okF162 : a_okF (5, 67, 0, 14) := ⟨_, rfl, by decide +kernel, a_t3 (List.mem_of_getElem? (i := 39) rfl) rfl⟩
theorem a_okF163 : a_okF (11, 186, 0, 14) := ⟨_, rfl, by decide +kernel, a_t3 (List.mem_of_getElem? (i := 40) rfl) rfl⟩
theorem a_okF164 : a_okF (7, 62, 0, 15) := ⟨_, rfl, by decide +kernel, a_t3 (List.mem_of_getElem? (i := 41) rfl) rfl⟩
theorem a_okF165 : a_okF (5, 60, 0, 15) := ⟨_, rfl, by decide +kernel, a_t3 (List.mem_of_getElem? (i := 42) rfl) rfl⟩
theorem a_okF166 : a_okF (11, 160, 0, 15) := ⟨_, rfl, by decide +kernel, a_t3 (List.mem_of_getElem? (i := 43) rfl) rfl⟩
theorem a_okF167 : a_okF (11, 330, 0, 16) := ⟨_, rfl, by decide +kernel, a_t3 (List.mem_of_getElem? (i := 44) rfl) rfl⟩
theorem a_okF168 : a_okF (10, 9, 10, 0) := ⟨_, rfl, by decide +kernel, a_t4 (List.mem_of_getElem? (i := 33) rfl) rfl⟩
theorem a_okF169 : a_okF (8, 65, 10, 0) := ⟨_, rfl, by decide +kernel, a_t4 (List.mem_of_getElem? (i := 34) rfl) rfl⟩
theorem a_okF170 : a_okF (10, 15, 10, 1) := ⟨_, rfl, by decide +kernel, a_t4 (List.mem_of_getElem? (i := 35) rfl) rfl⟩
theorem a_okF171 : a_okF (8, 79, 10, 1) := ⟨_, rfl, by decide +kernel, a_t4 (List.mem_of_getElem? (i := 36) rfl) rfl⟩
theorem a_okF172 : a_okF (10, 18, 10, 2) := ⟨_, rfl, by decide +kernel, a_t4 (List.mem_of_getElem? (i := 37) rfl) rfl⟩
theorem a_okF173 : a_okF (10, 22, 10, 3) := ⟨_, rfl, by decide +kernel, a_t4 (List.mem_of_getElem? (i := 38) rfl) rfl⟩
theorem a_okF174 : a_okF (11, 233, 10, 3) := ⟨_, rfl, by decide +kernel, a_t4 (List.mem_of_getElem? (i := 39) rfl) rfl⟩
theorem a_okF175 : a_okF (11, 228, 10, 4) := ⟨_, rfl, by decide +kernel, a_t4 (List.mem_of_getElem? (i := 40) rfl) rfl⟩
theorem a_okF176 : a_okF (12, 186, 12, 0) := ⟨_, rfl, by decide +kernel, a_t5 (List.mem_of_getElem? (i := 206) rfl) rfl⟩
theorem a_okF177 : a_okF (12, 7, 12, 1) := ⟨_, rfl, by decide +kernel, a_t5 (List.mem_of_getElem? (i := 207) rfl) rfl⟩
theorem a_okF178 : a_okF (12, 197, 12, 2) := ⟨_, rfl, by decide +kernel, a_t5 (List.mem_of_getElem? (i := 208) rfl) rfl⟩
theorem a_okF179 : a_okF (12, 13, 12, 3) := ⟨_, rfl, by decide +kernel, a_t5 (List.mem_of_getElem? (i := 209) rfl) rfl⟩
theorem a_okF180 : a_okF (12, 16, 12, 4) := ⟨_, rfl, by decide +kernel, a_t5 (List.mem_of_getElem? (i := 210) rfl) rfl⟩
theorem a_okF181 : a_okF (12, 19, 12, 5) := ⟨_, rfl, by decide +kernel, a_t5 (List.mem_of_getElem? (i := 211) rfl) rfl⟩
theorem a_okF182 : a_okF (12, 180, 12, 6) := ⟨_, rfl, by decide +kernel, a_t5 (List.mem_of_getElem? (i := 212) rfl) rfl⟩
theorem a_okF183 : a_okF (12, 22, 12, 7) := ⟨_, rfl, by decide +kernel, a_t5 (List.mem_of_getElem? (i := 213) rfl) rfl⟩
theorem a_okF184 : a_okF (12, 25, 12, 8) := ⟨_, rfl, by decide +kernel, a_t5 (List.mem_of_getElem? (i := 214) rfl) rfl⟩
theorem a_okF185 : a_okF (12, 28, 12, 9) := ⟨_, rfl, by decide +kernel, a_t5 (List.mem_of_getElem? (i := 215) rfl) rfl⟩
theorem a_okF186 : a_okF (12, 32, 12, 10) := ⟨_, rfl, by decide +kernel, a_t5 (List.mem_of_getElem? (i := 216) rfl) rfl⟩
theorem a_okF187 : a_okF (12, 204, 12, 11) := ⟨_, rfl, by decide +kernel, a_t5 (List.mem_of_getElem? (i := 217) rfl) rfl⟩
theorem a_okF188 : a_okF (12, 207, 12, 12) := ⟨_, rfl, by decide +kernel, a_t5 (List.mem_of_getElem? (i := 218) rfl) rfl⟩
theorem a_okF189 : a_okF (12, 211, 12, 13) := ⟨_, rfl, by decide +kernel, a_t5 (List.mem_of_getElem? (i := 219) rfl) rfl⟩
theorem a_okF190 : a_okF (12, 214, 12, 14) := ⟨_, rfl, by decide +kernel, a_t5 (List.mem_of_getElem? (i := 220) rfl) rfl⟩
theorem a_okF191 : a_okF (12, 217, 12, 15) := ⟨_, rfl, by decide +kernel, a_t5 (List.mem_of_getElem? (i := 221) rfl) rfl⟩
theorem a_okF192 : a_okF (12, 220, 12, 16) := ⟨_, rfl, by decide +kernel, a_t5 (List.mem_of_getElem? (i := 222) rfl) rfl⟩
theorem a_okF193 : a_okF (12, 183, 12, 17) := ⟨_, rfl, by decide +kernel, a_t5 (List.mem_of_getElem? (i := 223) rfl) rfl⟩
theorem a_okF194 : a_okF (12, 35, 12, 18) := ⟨_, rfl, by decide +kernel, a_t5 (List.mem_of_getElem? (i := 224) rfl) rfl⟩
theorem a_okF195 : a_okF (12, 38, 12, 19) := ⟨_, rfl, by decide +kernel, a_t5 (List.mem_of_getElem? (i := 225) rfl) rfl⟩
theorem a_okF196 : a_okF (12, 41, 12, 20) := ⟨_, rfl, by decide +kernel, a_t5 (List.mem_of_getElem? (i := 226) rfl) rfl⟩
theorem a_okF197 : a_okF (12, 44, 12, 21) := ⟨_, rfl, by decide +kernel, a_t5 (List.mem_of_getElem? (i := 227) rfl) rfl⟩
theorem a_okF198 : a_okF (12, 47, 12, 22) := ⟨_, rfl, by decide +kernel, a_t5 (List.mem_of_getElem? (i := 228) rfl) rfl⟩
theorem a_okF199 : a_okF (12, 50, 12, 23) := ⟨_, rfl, by decide +kernel, a_t5 (List.mem_of_getElem? (i := 229) rfl) rfl⟩
theorem a_okF200 : a_okF (12, 53, 12, 24) := ⟨_, rfl, by decide +kernel, a_t5 (List.mem_of_getElem? (i := 230) rfl) rfl⟩
theorem a_okF201 : a_okF (12, 56, 12, 25) := ⟨_, rfl, by decide +kernel, a_t5 (List.mem_of_getElem? (i := 231) rfl) rfl⟩
theorem a_okF202 : a_okF (12, 59, 12, 26) := ⟨_, rfl, by decide +kernel, a_t5 (List.mem_of_getElem? (i := 232) rfl) rfl⟩
theorem a_okF203 : a_okF (12, 62, 12, 27) := ⟨_, rfl, by decide +kernel, a_t5 (List.mem_of_getElem? (i := 233) rfl) rfl⟩
theorem a_okF204 : a_okF (12, 65, 12, 28) := ⟨_, rfl, by decide +kernel, a_t5 (List.mem_of_getElem? (i := 234) rfl) rfl⟩
theorem a_okF205 : a_okF (12, 68, 12, 29) := ⟨_, rfl, by decide +kernel, a_t5 (List.mem_of_getElem? (i := 235) rfl) rfl⟩
theorem a_okF206 : a_okF (12, 72, 12, 30) := ⟨_, rfl, by decide +kernel, a_t5 (List.mem_of_getElem? (i := 236) rfl) rfl⟩
theorem a_okF207 : a_okF (12, 75, 12, 31) := ⟨_, rfl, by decide +kernel, a_t5 (List.mem_of_getElem? (i := 237) rfl) rfl⟩
theorem a_okF208 : a_okF (12, 78, 12, 32) := ⟨_, rfl, by decide +kernel, a_t5 (List.mem_of_getElem? (i := 238) rfl) rfl⟩
theorem a_okF209 : a_okF (12, 81, 12, 33) := ⟨_, rfl, by decide +kernel, a_t5 (List.mem_of_getElem? (i := 239) rfl) rfl⟩
theorem a_okF210 : a_okF (12, 84, 12, 34) := ⟨_, rfl, by decide +kernel, a_t6 (List.mem_of_getElem? (i := 0) rfl) rfl⟩
theorem a_okF211 : a_okF (12, 230, 12, 35) := ⟨_, rfl, by decide +kernel, a_t6 (List.mem_of_getElem? (i := 1) rfl) rfl⟩
theorem a_okF212 : a_okF (12, 88, 12, 36) := ⟨_, rfl, by decide +kernel, a_t6 (List.mem_of_getElem? (i := 2) rfl) rfl⟩
theorem a_okF213 : a_okF (12, 91, 12, 37) := ⟨_, rfl, by decide +kernel, a_t6 (List.mem_of_getElem? (i := 3) rfl) rfl⟩
theorem a_okF214 : a_okF (12, 94, 12, 38) := ⟨_, rfl, by decide +kernel, a_t6 (List.mem_of_getElem? (i := 4) rfl) rfl⟩
theorem a_okF215 : a_okF (12, 97, 12, 39) := ⟨_, rfl, by decide +kernel, a_t6 (List.mem_of_getElem? (i := 5) rfl) rfl⟩
theorem a_okF216 : a_okF (12, 257, 12, 40) := ⟨_, rfl, by decide +kernel, a_t6 (List.mem_of_getElem? (i := 6) rfl) rfl⟩
theorem a_okF217 : a_okF (12, 312, 12, 41) := ⟨_, rfl, by decide +kernel, a_t6 (List.mem_of_getElem? (i := 7) rfl) rfl⟩
theorem a_okF218 : a_okF (12, 100, 12, 42) := ⟨_, rfl, by decide +kernel, a_t6 (List.mem_of_getElem? (i := 8) rfl) rfl⟩
theorem a_okF219 : a_okF (12, 103, 12, 43) := ⟨_, rfl, by decide +kernel, a_t6 (List.mem_of_getElem? (i := 9) rfl) rfl⟩
theorem a_okF220 : a_okF (12, 106, 12, 44) := ⟨_, rfl, by decide +kernel, a_t6 (List.mem_of_getElem? (i := 10) rfl) rfl⟩
theorem a_okF221 : a_okF (12, 109, 12, 45) := ⟨_, rfl, by decide +kernel, a_t6 (List.mem_of_getElem? (i := 11) rfl) rfl⟩
theorem a_okF222 : a_okF (12, 268, 12, 46) := ⟨_, rfl, by decide +kernel, a_t6 (List.mem_of_getElem? (i := 12) rfl) rfl⟩
theorem a_okF223 : a_okF (12, 271, 12, 47) := ⟨_, rfl, by decide +kernel, a_t6 (List.mem_of_getElem? (i := 13) rfl) rfl⟩
theorem a_okF224 : a_okF (12, 265, 12, 48) := ⟨_, rfl, by decide +kernel, a_t6 (List.mem_of_getElem? (i := 14) rfl) rfl⟩
theorem a_okF225 : a_okF (12, 262, 12, 49) := ⟨_, rfl, by decide +kernel, a_t6 (List.mem_of_getElem? (i := 15) rfl) rfl⟩
theorem a_okF226 : a_okF (12, 281, 12, 50) := ⟨_, rfl, by decide +kernel, a_t6 (List.mem_of_getElem? (i := 16) rfl) rfl⟩
theorem a_okF227 : a_okF (12, 299, 12, 51) := ⟨_, rfl, by decide +kernel, a_t6 (List.mem_of_getElem? (i := 17) rfl) rfl⟩
theorem a_okF228 : a_okF (12, 112, 12, 52) := ⟨_, rfl, by decide +kernel, a_t6 (List.mem_of_getElem? (i := 18) rfl) rfl⟩
theorem a_okF229 : a_okF (12, 115, 12, 53) := ⟨_, rfl, by decide +kernel, a_t6 (List.mem_of_getElem? (i := 19) rfl) rfl⟩
theorem a_okF230 : a_okF (12, 296, 12, 54) := ⟨_, rfl, by decide +kernel, a_t6 (List.mem_of_getElem? (i := 20) rfl) rfl⟩
theorem a_okF231 : a_okF (12, 118, 12, 55) := ⟨_, rfl, by decide +kernel, a_t6 (List.mem_of_getElem? (i := 21) rfl) rfl⟩
theorem a_okF232 : a_okF (12, 290, 12, 56) := ⟨_, rfl, by decide +kernel, a_t6 (List.mem_of_getElem? (i := 22) rfl) rfl⟩
theorem a_okF233 : a_okF (12, 121, 12, 57) := ⟨_, rfl, by decide +kernel, a_t6 (List.mem_of_getElem? (i := 23) rfl) rfl⟩
theorem a_okF234 : a_okF (12, 124, 12, 58) := ⟨_, rfl, by decide +kernel, a_t6 (List.mem_of_getElem? (i := 24) rfl) rfl⟩
theorem a_okF235 : a_okF (12, 127, 12, 59) := ⟨_, rfl, by decide +kernel, a_t6 (List.mem_of_getElem? (i := 25) rfl) rfl⟩
theorem a_okF236 : a_okF (12, 130, 12, 60) := ⟨_, rfl, by decide +kernel, a_t6 (List.mem_of_getElem? (i := 26) rfl) rfl⟩
theorem a_okF237 : a_okF (12, 402, 12, 61) := ⟨_, rfl, by decide +kernel, a_t6 (List.mem_of_getElem? (i := 27) rfl) rfl⟩
theorem a_okF238 : a_okF (12, 133, 12, 62) := ⟨_, rfl, by decide +kernel, a_t6 (List.mem_of_getElem? (i := 28) rfl) rfl⟩
theorem a_okF239 : a_okF (12, 136, 12, 63) := ⟨_, rfl, by decide +kernel, a_t6 (List.mem_of_getElem? (i := 29) rfl) rfl⟩
theorem a_okF240 : a_okF (12, 387, 12, 64) := ⟨_, rfl, by decide +kernel, a_t6 (List.mem_of_getElem? (i := 30) rfl) rfl⟩
theorem a_okF241 : a_okF (12, 139, 12, 65) := ⟨_, rfl, by decide +kernel, a_t6 (List.mem_of_getElem? (i := 31) rfl) rfl⟩
theorem a_okF242 : a_okF (12, 409, 12, 66) := ⟨_, rfl, by decide +kernel, a_t6 (List.mem_of_getElem? (i := 32) rfl) rfl⟩
theorem a_okF243 : a_okF (12, 142, 12, 67) := ⟨_, rfl, by decide +kernel, a_t6 (List.mem_of_getElem? (i := 33) rfl) rfl⟩
theorem a_okF244 : a_okF (12, 145, 12, 68) := ⟨_, rfl, by decide +kernel, a_t6 (List.mem_of_getElem? (i := 34) rfl) rfl⟩
theorem a_okF245 : a_okF (12, 148, 12, 69) := ⟨_, rfl, by decide +kernel, a_t6 (List.mem_of_getElem? (i := 35) rfl) rfl⟩
theorem a_okF246 : a_okF (12, 151, 12, 70) := ⟨_, rfl, by decide +kernel, a_t6 (List.mem_of_getElem? (i := 36) rfl) rfl⟩
theorem a_okF247 : a_okF (12, 154, 12, 71) := ⟨_, rfl, by decide +kernel, a_t6 (List.mem_of_getElem? (i := 37) rfl) rfl⟩
theorem a_okF248 : a_okF (12, 157, 12, 72) := ⟨_, rfl, by decide +kernel, a_t6 (List.mem_of_getElem? (i := 38) rfl) rfl⟩
theorem a_okF249 : a_okF (12, 160, 12, 73) := ⟨_, rfl, by decide +kernel, a_t6 (List.mem_of_getElem? (i := 39) rfl) rfl⟩
theorem a_okF250 : a_okF (12, 427, 12, 74) := ⟨_, rfl, by decide +kernel, a_t6 (List.mem_of_getElem? (i := 40) rfl) rfl⟩
theorem a_okF251 : a_okF (12, 163, 12, 75) := ⟨_, rfl, by decide +kernel, a_t6 (List.mem_of_getElem? (i := 41) rfl) rfl⟩
theorem a_okF252 : a_okF (12, 166, 12, 76) := ⟨_, rfl, by decide +kernel, a_t6 (List.mem_of_getElem? (i := 42) rfl) rfl⟩
theorem a_okF253 : a_okF (12, 169, 12, 77) := ⟨_, rfl, by decide +kernel, a_t6 (List.mem_of_getElem? (i := 43) rfl) rfl⟩
theorem a_okF254 : a_okF (12, 172, 12, 78) := ⟨_, rfl, by decide +kernel, a_t6 (List.mem_of_getElem? (i := 44) rfl) rfl⟩
theorem a_okF255 : a_okF (12, 436, 12, 79) := ⟨_, rfl, by decide +kernel, a_t6 (List.mem_of_getElem? (i := 45) rfl) rfl⟩
set_option maxRecDepth 100000 in
theorem a_fl_ok : ∀ q ∈ a_fl, a_okF q := List.forall_mem_cons.mpr ⟨a_okF0, List.forall_mem_cons.mpr ⟨a_okF1, List.forall_mem_cons.mpr ⟨a_okF2, List.forall_mem_cons.mpr ⟨a_okF3, List.forall_mem_cons.mpr ⟨a_okF4, List.forall_mem_cons.mpr ⟨a_okF5, List.forall_mem_cons.mpr ⟨a_okF6, List.forall_mem_cons.mpr ⟨a_okF7, List.forall_mem_cons.mpr ⟨a_okF8, List.forall_mem_cons.mpr ⟨a_okF9, List.forall_mem_cons.mpr ⟨a_okF10, List.forall_mem_cons.mpr ⟨a_okF11, List.forall_mem_cons.mpr ⟨a_okF12, List.forall_mem_cons.mpr ⟨a_okF13, List.forall_mem_cons.mpr ⟨a_okF14, List.forall_mem_cons.mpr ⟨a_okF15, List.forall_mem_cons.mpr ⟨a_okF16, List.forall_mem_cons.mpr ⟨a_okF17, List.forall_mem_cons.mpr ⟨a_okF18, List.forall_mem_cons.mpr ⟨a_okF19, List.forall_mem_cons.mpr ⟨a_okF20, List.forall_mem_cons.mpr ⟨a_okF21, List.forall_mem_cons.mpr ⟨a_okF22, List.forall_mem_cons.mpr ⟨a_okF23, List.forall_mem_cons.mpr ⟨a_okF24, List.forall_mem_cons.mpr ⟨a_okF25, List.forall_mem_cons.mpr ⟨a_okF26, List.forall_mem_cons.mpr ⟨a_okF27, List.forall_mem_cons.mpr ⟨a_okF28, List.forall_mem_cons.mpr ⟨a_okF29, List.forall_mem_cons.mpr ⟨a_okF30, List.forall_mem_cons.mpr ⟨a_okF31, List.forall_mem_cons.mpr ⟨a_okF32, List.forall_mem_cons.mpr ⟨a_okF33, List.forall_mem_cons.mpr ⟨a_okF34, List.forall_mem_cons.mpr ⟨a_okF35, List.forall_mem_cons.mpr ⟨a_okF36, List.forall_mem_cons.mpr ⟨a_okF37, List.forall_mem_cons.mpr ⟨a_okF38, List.forall_mem_cons.mpr ⟨a_okF39, List.forall_mem_cons.mpr ⟨a_okF40, List.forall_mem_cons.mpr ⟨a_okF41, List.forall_mem_cons.mpr ⟨a_okF42, List.forall_mem_cons.mpr ⟨a_okF43, List.forall_mem_cons.mpr ⟨a_okF44, List.forall_mem_cons.mpr ⟨a_okF45, List.forall_mem_cons.mpr ⟨a_okF46, List.forall_mem_cons.mpr ⟨a_okF47, List.forall_mem_cons.mpr ⟨a_okF48, List.forall_mem_cons.mpr ⟨a_okF49, List.forall_mem_cons.mpr ⟨a_okF50, List.forall_mem_cons.mpr ⟨a_okF51, List.forall_mem_cons.mpr ⟨a_okF52, List.forall_mem_cons.mpr ⟨a_okF53, List.forall_mem_cons.mpr ⟨a_okF54, List.forall_mem_cons.mpr ⟨a_okF55, List.forall_mem_cons.mpr ⟨a_okF56, List.forall_mem_cons.mpr ⟨a_okF57, List.forall_mem_cons.mpr ⟨a_okF58, List.forall_mem_cons.mpr ⟨a_okF59, List.forall_mem_cons.mpr ⟨a_okF60, List.forall_mem_cons.mpr ⟨a_okF61, List.forall_mem_cons.mpr ⟨a_okF62, List.forall_mem_cons.mpr ⟨a_okF63, List.forall_mem_cons.mpr ⟨a_okF64, List.forall_mem_cons.mpr ⟨a_okF65, List.forall_mem_cons.mpr ⟨a_okF66, List.forall_mem_cons.mpr ⟨a_okF67, List.forall_mem_cons.mpr ⟨a_okF68, List.forall_mem_cons.mpr ⟨a_okF69, List.forall_mem_cons.mpr ⟨a_okF70, List.forall_mem_cons.mpr ⟨a_okF71, List.forall_mem_cons.mpr ⟨a_okF72, List.forall_mem_cons.mpr ⟨a_okF73, List.forall_mem_cons.mpr ⟨a_okF74, List.forall_mem_cons.mpr ⟨a_okF75, List.forall_mem_cons.mpr ⟨a_okF76, List.forall_mem_cons.mpr ⟨a_okF77, List.forall_mem_cons.mpr ⟨a_okF78, List.forall_mem_cons.mpr ⟨a_okF79, List.forall_mem_cons.mpr ⟨a_okF80, List.forall_mem_cons.mpr ⟨a_okF81, List.forall_mem_cons.mpr ⟨a_okF82, List.forall_mem_cons.mpr ⟨a_okF83, List.forall_mem_cons.mpr ⟨a_okF84, List.forall_mem_cons.mpr ⟨a_okF85, List.forall_mem_cons.mpr ⟨a_okF86, List.forall_mem_cons.mpr ⟨a_okF87, List.forall_mem_cons.mpr ⟨a_okF88, List.forall_mem_cons.mpr ⟨a_okF89, List.forall_mem_cons.mpr ⟨a_okF90, List.forall_mem_cons.mpr ⟨a_okF91, List.forall_mem_cons.mpr ⟨a_okF92, List.forall_mem_cons.mpr ⟨a_okF93, List.forall_mem_cons.mpr ⟨a_okF94, List.forall_mem_cons.mpr ⟨a_okF95, List.forall_mem_cons.mpr ⟨a_okF96, List.forall_mem_cons.mpr ⟨a_okF97, List.forall_mem_cons.mpr ⟨a_okF98, List.forall_mem_cons.mpr ⟨a_okF99, List.forall_mem_cons.mpr ⟨a_okF100, List.forall_mem_cons.mpr ⟨a_okF101, List.forall_mem_cons.mpr ⟨a_okF102, List.forall_mem_cons.mpr ⟨a_okF103, List.forall_mem_cons.mpr ⟨a_okF104, List.forall_mem_cons.mpr ⟨a_okF105, List.forall_mem_cons.mpr ⟨a_okF106, List.forall_mem_cons.mpr ⟨a_okF107, List.forall_mem_cons.mpr ⟨a_okF108, List.forall_mem_cons.mpr ⟨a_okF109, List.forall_mem_cons.mpr ⟨a_okF110, List.forall_mem_cons.mpr ⟨a_okF111, List.forall_mem_cons.mpr ⟨a_okF112, List.forall_mem_cons.mpr ⟨a_okF113, List.forall_mem_cons.mpr ⟨a_okF114, List.forall_mem_cons.mpr ⟨a_okF115, List.forall_mem_cons.mpr ⟨a_okF116, List.forall_mem_cons.mpr ⟨a_okF117, List.forall_mem_cons.mpr ⟨a_okF118, List.forall_mem_cons.mpr ⟨a_okF119, List.forall_mem_cons.mpr ⟨a_okF120, List.forall_mem_cons.mpr ⟨a_okF121, List.forall_mem_cons.mpr ⟨a_okF122, List.forall_mem_cons.mpr ⟨a_okF123, List.forall_mem_cons.mpr ⟨a_okF124, List.forall_mem_cons.mpr ⟨a_okF125, List.forall_mem_cons.mpr ⟨a_okF126, List.forall_mem_cons.mpr ⟨a_okF127, List.forall_mem_cons.mpr ⟨a_okF128, List.forall_mem_cons.mpr ⟨a_okF129, List.forall_mem_cons.mpr ⟨a_okF130, List.forall_mem_cons.mpr ⟨a_okF131, List.forall_mem_cons.mpr ⟨a_okF132, List.forall_mem_cons.mpr ⟨a_okF133, List.forall_mem_cons.mpr ⟨a_okF134, List.forall_mem_cons.mpr ⟨a_okF135, List.forall_mem_cons.mpr ⟨a_okF136, List.forall_mem_cons.mpr ⟨a_okF137, List.forall_mem_cons.mpr ⟨a_okF138, List.forall_mem_cons.mpr ⟨a_okF139, List.forall_mem_cons.mpr ⟨a_okF140, List.forall_mem_cons.mpr ⟨a_okF141, List.forall_mem_cons.mpr ⟨a_okF142, List.forall_mem_cons.mpr ⟨a_okF143, List.forall_mem_cons.mpr ⟨a_okF144, List.forall_mem_cons.mpr ⟨a_okF145, List.forall_mem_cons.mpr ⟨a_okF146, List.forall_mem_cons.mpr ⟨a_okF147, List.forall_mem_cons.mpr ⟨a_okF148, List.forall_mem_cons.mpr ⟨a_okF149, List.forall_mem_cons.mpr ⟨a_okF150, List.forall_mem_cons.mpr ⟨a_okF151, List.forall_mem_cons.mpr ⟨a_okF152, List.forall_mem_cons.mpr ⟨a_okF153, List.forall_mem_cons.mpr ⟨a_okF154, List.forall_mem_cons.mpr ⟨a_okF155, List.forall_mem_cons.mpr ⟨a_okF156, List.forall_mem_cons.mpr ⟨a_okF157, List.forall_mem_cons.mpr ⟨a_okF158, List.forall_mem_cons.mpr ⟨a_okF159, List.forall_mem_cons.mpr ⟨a_okF160, List.forall_mem_cons.mpr ⟨a_okF161, List.forall_mem_cons.mpr ⟨a_okF162, List.forall_mem_cons.mpr ⟨a_okF163, List.forall_mem_cons.mpr ⟨a_okF164, List.forall_mem_cons.mpr ⟨a_okF165, List.forall_mem_cons.mpr ⟨a_okF166, List.forall_mem_cons.mpr ⟨a_okF167, List.forall_mem_cons.mpr ⟨a_okF168, List.forall_mem_cons.mpr ⟨a_okF169, List.forall_mem_cons.mpr ⟨a_okF170, List.forall_mem_cons.mpr ⟨a_okF171, List.forall_mem_cons.mpr ⟨a_okF172, List.forall_mem_cons.mpr ⟨a_okF173, List.forall_mem_cons.mpr ⟨a_okF174, List.forall_mem_cons.mpr ⟨a_okF175, List.forall_mem_cons.mpr ⟨a_okF176, List.forall_mem_cons.mpr ⟨a_okF177, List.forall_mem_cons.mpr ⟨a_okF178, List.forall_mem_cons.mpr ⟨a_okF179, List.forall_mem_cons.mpr ⟨a_okF180, List.forall_mem_cons.mpr ⟨a_okF181, List.forall_mem_cons.mpr ⟨a_okF182, List.forall_mem_cons.mpr ⟨a_okF183, List.forall_mem_cons.mpr ⟨a_okF184, List.forall_mem_cons.mpr ⟨a_okF185, List.forall_mem_cons.mpr ⟨a_okF186, List.forall_mem_cons.mpr ⟨a_okF187, List.forall_mem_cons.mpr ⟨a_okF188, List.forall_mem_cons.mpr ⟨a_okF189, List.forall_mem_cons.mpr ⟨a_okF190, List.forall_mem_cons.mpr ⟨a_okF191, List.forall_mem_cons.mpr ⟨a_okF192, List.forall_mem_cons.mpr ⟨a_okF193, List.forall_mem_cons.mpr ⟨a_okF194, List.forall_mem_cons.mpr ⟨a_okF195, List.forall_mem_cons.mpr ⟨a_okF196, List.forall_mem_cons.mpr ⟨a_okF197, List.forall_mem_cons.mpr ⟨a_okF198, List.forall_mem_cons.mpr ⟨a_okF199, List.forall_mem_cons.mpr ⟨a_okF200, List.forall_mem_cons.mpr ⟨a_okF201, List.forall_mem_cons.mpr ⟨a_okF202, List.forall_mem_cons.mpr ⟨a_okF203, List.forall_mem_cons.mpr ⟨a_okF204, List.forall_mem_cons.mpr ⟨a_okF205, List.forall_mem_cons.mpr ⟨a_okF206, List.forall_mem_cons.mpr ⟨a_okF207, List.forall_mem_cons.mpr ⟨a_okF208, List.forall_mem_cons.mpr ⟨a_okF209, List.forall_mem_cons.mpr ⟨a_okF210, List.forall_mem_cons.mpr ⟨a_okF211, List.forall_mem_cons.mpr ⟨a_okF212, List.forall_mem_cons.mpr ⟨a_okF213, List.forall_mem_cons.mpr ⟨a_okF214, List.forall_mem_cons.mpr ⟨a_okF215, List.forall_mem_cons.mpr ⟨a_okF216, List.forall_mem_cons.mpr ⟨a_okF217, List.forall_mem_cons.mpr ⟨a_okF218, List.forall_mem_cons.mpr ⟨a_okF219, List.forall_mem_cons.mpr ⟨a_okF220, List.forall_mem_cons.mpr ⟨a_okF221, List.forall_mem_cons.mpr ⟨a_okF222, List.forall_mem_cons.mpr ⟨a_okF223, List.forall_mem_cons.mpr ⟨a_okF224, List.forall_mem_cons.mpr ⟨a_okF225, List.forall_mem_cons.mpr ⟨a_okF226, List.forall_mem_cons.mpr ⟨a_okF227, List.forall_mem_cons.mpr ⟨a_okF228, List.forall_mem_cons.mpr ⟨a_okF229, List.forall_mem_cons.mpr ⟨a_okF230, List.forall_mem_cons.mpr ⟨a_okF231, List.forall_mem_cons.mpr ⟨a_okF232, List.forall_mem_cons.mpr ⟨a_okF233, List.forall_mem_cons.mpr ⟨a_okF234, List.forall_mem_cons.mpr ⟨a_okF235, List.forall_mem_cons.mpr ⟨a_okF236, List.forall_mem_cons.mpr ⟨a_okF237, List.forall_mem_cons.mpr ⟨a_okF238, List.forall_mem_cons.mpr ⟨a_okF239, List.forall_mem_cons.mpr ⟨a_okF240, List.forall_mem_cons.mpr ⟨a_okF241, List.forall_mem_cons.mpr ⟨a_okF242, List.forall_mem_cons.mpr ⟨a_okF243, List.forall_mem_cons.mpr ⟨a_okF244, List.forall_mem_cons.mpr ⟨a_okF245, List.forall_mem_cons.mpr ⟨a_okF246, List.forall_mem_cons.mpr ⟨a_okF247, List.forall_mem_cons.mpr ⟨a_okF248, List.forall_mem_cons.mpr ⟨a_okF249, List.forall_mem_cons.mpr ⟨a_okF250, List.forall_mem_cons.mpr ⟨a_okF251, List.forall_mem_cons.mpr ⟨a_okF252, List.forall_mem_cons.mpr ⟨a_okF253, List.forall_mem_cons.mpr ⟨a_okF254, List.forall_mem_cons.mpr ⟨a_okF255, fun _ h => absurd h List.not_mem_nil⟩⟩⟩⟩⟩⟩⟩⟩⟩⟩⟩⟩⟩⟩⟩⟩⟩⟩⟩⟩⟩⟩⟩⟩⟩⟩⟩⟩⟩⟩⟩⟩⟩⟩⟩⟩⟩⟩⟩⟩⟩⟩⟩⟩⟩⟩⟩⟩⟩⟩⟩⟩⟩⟩⟩⟩⟩⟩⟩⟩⟩⟩⟩⟩⟩⟩⟩⟩⟩⟩⟩⟩⟩⟩⟩⟩⟩⟩⟩⟩⟩⟩⟩⟩⟩⟩⟩⟩⟩⟩⟩⟩⟩⟩⟩⟩⟩⟩⟩⟩⟩⟩⟩⟩⟩⟩⟩⟩⟩⟩⟩⟩⟩⟩⟩⟩⟩⟩⟩⟩⟩⟩⟩⟩⟩⟩⟩⟩⟩⟩⟩⟩⟩⟩⟩⟩⟩⟩⟩⟩⟩⟩⟩⟩⟩⟩⟩⟩⟩⟩⟩⟩⟩⟩⟩⟩⟩⟩⟩⟩⟩⟩⟩⟩⟩⟩⟩⟩⟩⟩⟩⟩⟩⟩⟩⟩⟩⟩⟩⟩⟩⟩⟩⟩⟩⟩⟩⟩⟩⟩⟩⟩⟩⟩⟩⟩⟩⟩⟩⟩⟩⟩⟩⟩⟩⟩⟩⟩⟩⟩⟩⟩⟩⟩⟩⟩⟩⟩⟩⟩⟩⟩⟩⟩⟩⟩⟩⟩⟩⟩⟩⟩⟩⟩⟩⟩⟩⟩⟩⟩⟩⟩⟩⟩⟩⟩⟩⟩⟩⟩⟩⟩⟩⟩⟩⟩
/-- owner, entry, 0 virtual, 1 static, 2 a constructor; the method -/
def a_cl : List (Nat × Nat × Nat × Nat) := [(13, 9, 2, 0), (11, 11, 2, 1), (11, 18, 2, 2), (11, 25, 2, 3), (11, 32, 2, 4), (11, 41, 2, 5), (11, 50, 2, 6), (11, 59, 2, 7), (11, 66, 2, 8), (13, 13, 0, 9), (11, 78, 0, 10), (13, 18, 0, 11), (11, 86, 1, 12), (11, 101, 1, 13), (11, 90, 0, 14), (13, 23, 0, 15), (11, 97, 0, 16), (13, 28, 0, 17), (11, 108, 0, 18), (1, 34, 0, 19), (13, 32, 0, 20), (11, 114, 0, 21), (5, 41, 2, 22), (13, 36, 0, 23), (11, 117, 0, 24), (11, 120, 0, 25), (11, 123, 0, 26), (6, 37, 0, 27), (6, 43, 0, 28), (6, 74, 0, 29), (6, 62, 0, 30), (6, 78, 1, 31), (6, 52, 0, 32), (6, 56, 0, 33), (6, 66, 1, 34), (6, 71, 1, 35), (13, 40, 0, 36), (11, 128, 2, 37), (13, 45, 0, 38), (11, 135, 1, 39), (11, 139, 1, 40), (11, 145, 0, 32), (11, 149, 0, 41), (11, 152, 0, 42), (11, 156, 0, 43), (13, 50, 0, 44), (11, 164, 0, 45), (5, 120, 0, 46), (5, 207, 0, 47), (2, 39, 0, 48), (2, 46, 0, 49), (5, 183, 0, 49), (5, 200, 0, 50), (5, 211, 0, 51), (5, 225, 0, 52), (13, 54, 0, 53), (11, 189, 0, 54), (5, 56, 0, 55), (5, 70, 0, 56), (1, 38, 1, 57), (11, 192, 0, 58), (5, 76, 0, 54), (5, 80, 0, 59), (8, 85, 0, 60), (8, 61, 0, 61), (8, 68, 0, 62), (8, 57, 0, 63), (8, 51, 1, 35), (8, 72, 0, 64), (10, 25, 1, 65), (8, 91, 1, 34), (13, 60, 0, 66), (11, 198, 0, 67), (13, 65, 0, 68), (11, 205, 0, 69), (9, 36, 0, 70), (9, 40, 0, 71), (9, 44, 0, 72), (9, 66, 0, 73), (9, 69, 1, 74), (9, 55, 0, 75), (9, 62, 1, 76), (9, 48, 0, 77), (9, 52, 0, 78), (9, 59, 0, 79), (11, 209, 0, 80), (11, 213, 0, 81), (11, 217, 0, 82), (8, 28, 2, 83), (13, 69, 0, 84), (11, 224, 0, 61), (13, 73, 0, 85), (11, 236, 0, 46), (11, 240, 0, 86), (11, 244, 0, 87), (8, 76, 0, 88), (13, 77, 0, 89), (11, 248, 1, 90), (11, 251, 0, 91), (13, 81, 0, 92), (11, 254, 0, 93), (11, 257, 0, 94), (11, 260, 0, 95), (13, 85, 0, 96), (13, 89, 0, 97), (11, 268, 0, 28), (11, 271, 0, 98), (13, 93, 0, 99), (11, 274, 0, 100), (5, 90, 0, 101), (5, 94, 0, 102), (5, 86, 0, 103), (5, 98, 0, 104), (5, 144, 0, 105), (5, 102, 0, 106), (5, 48, 0, 32), (5, 105, 0, 86), (5, 109, 0, 107), (5, 153, 0, 108), (5, 162, 1, 35), (5, 167, 1, 34), (5, 170, 0, 109), (5, 156, 1, 57), (5, 113, 0, 110), (5, 117, 0, 111), (13, 97, 0, 112), (11, 278, 0, 55), (11, 281, 0, 113), (5, 190, 0, 114), (5, 193, 0, 115), (13, 101, 0, 116), (11, 285, 0, 117), (13, 105, 0, 118), (11, 289, 0, 119), (7, 54, 0, 32), (7, 58, 0, 55), (7, 66, 0, 120), (7, 45, 0, 121), (0, 64, 0, 122), (7, 70, 0, 123), (7, 103, 0, 49), (7, 107, 1, 34), (7, 74, 0, 124), (7, 86, 0, 100), (7, 90, 0, 113), (13, 109, 0, 125), (11, 295, 0, 126), (13, 113, 0, 127), (11, 298, 0, 123), (13, 118, 0, 128), (11, 302, 0, 129), (11, 305, 1, 130), (11, 308, 1, 57), (11, 313, 0, 131), (11, 316, 0, 132), (3, 49, 0, 32), (3, 57, 0, 133), (3, 90, 0, 110), (3, 94, 0, 134), (3, 100, 0, 135), (3, 104, 0, 114), (3, 108, 0, 136), (3, 61, 0, 137), (3, 75, 1, 35), (3, 68, 0, 138), (3, 118, 0, 115), (3, 122, 0, 51), (11, 322, 0, 139), (13, 122, 0, 140), (13, 126, 0, 141), (11, 333, 0, 142), (0, 54, 2, 37), (0, 57, 0, 41), (0, 60, 0, 42), (13, 130, 0, 143), (11, 336, 0, 144), (7, 116, 0, 145), (5, 215, 0, 117), (5, 219, 0, 100), (5, 222, 0, 45), (13, 135, 0, 146), (11, 339, 0, 145), (13, 139, 0, 147), (11, 342, 0, 148), (13, 144, 0, 149), (11, 345, 0, 150), (4, 49, 0, 151), (4, 53, 0, 32), (4, 61, 0, 117), (4, 76, 0, 135), (4, 57, 0, 152), (4, 80, 0, 153), (4, 90, 0, 154), (4, 117, 0, 46), (4, 93, 0, 51), (4, 97, 0, 114), (4, 101, 0, 110), (4, 105, 0, 136), (4, 109, 0, 115), (4, 113, 0, 155), (4, 126, 0, 52), (4, 87, 0, 156), (11, 348, 0, 157), (13, 148, 0, 158), (11, 351, 0, 159), (4, 130, 0, 45), (4, 133, 0, 113), (13, 152, 0, 160), (11, 354, 0, 161), (13, 156, 0, 162), (13, 160, 0, 163), (13, 164, 0, 164), (11, 363, 0, 165), (13, 168, 0, 166), (11, 367, 0, 167), (11, 370, 0, 168), (13, 12, 2, 169), (13, 17, 0, 170), (12, 189, 0, 171), (13, 22, 0, 172), (12, 193, 1, 173), (12, 176, 1, 174), (13, 27, 0, 175), (13, 31, 0, 176), (12, 200, 0, 177), (13, 35, 0, 178), (13, 39, 0, 179), (13, 44, 0, 180), (13, 49, 0, 181), (12, 223, 0, 182), (12, 226, 0, 183), (13, 53, 0, 184), (12, 244, 0, 185), (12, 247, 0, 186), (12, 241, 0, 187), (13, 57, 0, 188), (12, 251, 0, 189), (12, 254, 0, 190), (12, 329, 0, 191), (12, 325, 0, 192), (12, 319, 0, 193), (12, 350, 0, 194), (12, 322, 0, 195), (12, 287, 0, 196), (12, 284, 0, 197), (12, 274, 0, 198), (12, 278, 1, 199), (13, 64, 0, 200), (13, 68, 0, 201), (12, 315, 0, 202), (12, 302, 0, 203), (12, 306, 0, 204), (12, 293, 0, 205), (12, 309, 0, 206), (13, 72, 0, 207), (13, 76, 0, 208), (12, 335, 0, 209), (12, 338, 0, 210), (12, 332, 0, 211), (12, 342, 0, 212), (13, 80, 0, 213), (12, 346, 1, 214), (13, 84, 0, 215), (13, 88, 0, 216), (13, 92, 0, 217), (12, 353, 0, 218), (12, 356, 0, 219), (13, 96, 0, 220), (12, 381, 0, 221), (12, 378, 0, 222), (12, 365, 0, 223), (12, 368, 0, 224), (12, 359, 0, 225), (12, 371, 1, 226), (12, 362, 0, 227), (12, 374, 0, 228), (13, 100, 0, 229), (12, 384, 0, 230), (12, 237, 0, 231), (12, 233, 0, 232), (13, 104, 0, 233), (13, 108, 0, 234), (12, 396, 1, 235), (12, 399, 0, 236), (12, 390, 0, 237), (12, 405, 0, 238), (12, 393, 0, 239), (13, 112, 0, 240), (13, 117, 0, 241), (13, 121, 0, 242), (12, 415, 0, 243), (12, 412, 0, 244), (13, 125, 0, 245), (13, 129, 0, 246), (13, 134, 0, 247), (12, 418, 0, 248), (13, 138, 0, 249), (13, 143, 0, 250), (13, 147, 0, 251), (12, 430, 0, 252), (12, 421, 0, 253), (12, 424, 0, 254), (13, 151, 0, 255), (13, 155, 0, 256), (12, 433, 0, 257), (13, 159, 0, 258), (13, 163, 0, 259), (13, 167, 0, 260), (13, 171, 0, 261)]
def a_okC (q : Nat × Nat × Nat × Nat) : Prop := ∃ r, a_ms[q.2.2.2]? = some r ∧ Jvm.Cond.methodLink (a_own q.1) q.2.1 r.2.1 ∈ a_tb ∧ Jvm.Cond.initialized r.2.1.cls ∈ a_tb ∧ (q.2.2.1 = 0 → Jvm.Cond.instanceMethod r.2.1 ∈ a_tb ∧ Jvm.Cond.selects r.2.1.cls r.2.1 r.2.1 ∈ a_tb ∧ ∃ c, vwCl[r.1]? = some c ∧ c.1 = r.2.1.cls) ∧ (q.2.2.1 = 1 → Jvm.Cond.static r.2.1 ∈ a_tb) ∧ (q.2.2.1 = 2 → Jvm.Cond.instanceMethod r.2.1 ∈ a_tb ∧ r.2.2.2.2.2.2 = true)
theorem a_okC0 : a_okC (13, 9, 2, 0) := ⟨a_m0, rfl, a_t1 (List.mem_of_getElem? (i := 19) rfl) rfl, a_t1 (List.mem_of_getElem? (i := 1) rfl) rfl, fun h => absurd h (by decide), fun h => absurd h (by decide), fun _ => ⟨a_t1 (List.mem_of_getElem? (i := 20) rfl) rfl, rfl⟩⟩
theorem a_okC1 : a_okC (11, 11, 2, 1) := ⟨a_m1, rfl, a_t1 (List.mem_of_getElem? (i := 27) rfl) rfl, a_t1 (List.mem_of_getElem? (i := 2) rfl) rfl, fun h => absurd h (by decide), fun h => absurd h (by decide), fun _ => ⟨a_t1 (List.mem_of_getElem? (i := 28) rfl) rfl, rfl⟩⟩
theorem a_okC2 : a_okC (11, 18, 2, 2) := ⟨a_m2, rfl, a_t1 (List.mem_of_getElem? (i := 63) rfl) rfl, a_t1 (List.mem_of_getElem? (i := 3) rfl) rfl, fun h => absurd h (by decide), fun h => absurd h (by decide), fun _ => ⟨a_t1 (List.mem_of_getElem? (i := 64) rfl) rfl, rfl⟩⟩
theorem a_okC3 : a_okC (11, 25, 2, 3) := ⟨a_m3, rfl, a_t1 (List.mem_of_getElem? (i := 85) rfl) rfl, a_t1 (List.mem_of_getElem? (i := 4) rfl) rfl, fun h => absurd h (by decide), fun h => absurd h (by decide), fun _ => ⟨a_t1 (List.mem_of_getElem? (i := 86) rfl) rfl, rfl⟩⟩
theorem a_okC4 : a_okC (11, 32, 2, 4) := ⟨a_m4, rfl, a_t1 (List.mem_of_getElem? (i := 109) rfl) rfl, a_t1 (List.mem_of_getElem? (i := 5) rfl) rfl, fun h => absurd h (by decide), fun h => absurd h (by decide), fun _ => ⟨a_t1 (List.mem_of_getElem? (i := 110) rfl) rfl, rfl⟩⟩
theorem a_okC5 : a_okC (11, 41, 2, 5) := ⟨a_m5, rfl, a_t1 (List.mem_of_getElem? (i := 149) rfl) rfl, a_t1 (List.mem_of_getElem? (i := 6) rfl) rfl, fun h => absurd h (by decide), fun h => absurd h (by decide), fun _ => ⟨a_t1 (List.mem_of_getElem? (i := 150) rfl) rfl, rfl⟩⟩
theorem a_okC6 : a_okC (11, 50, 2, 6) := ⟨a_m6, rfl, a_t1 (List.mem_of_getElem? (i := 174) rfl) rfl, a_t1 (List.mem_of_getElem? (i := 7) rfl) rfl, fun h => absurd h (by decide), fun h => absurd h (by decide), fun _ => ⟨a_t1 (List.mem_of_getElem? (i := 175) rfl) rfl, rfl⟩⟩
theorem a_okC7 : a_okC (11, 59, 2, 7) := ⟨a_m7, rfl, a_t1 (List.mem_of_getElem? (i := 210) rfl) rfl, a_t1 (List.mem_of_getElem? (i := 8) rfl) rfl, fun h => absurd h (by decide), fun h => absurd h (by decide), fun _ => ⟨a_t1 (List.mem_of_getElem? (i := 211) rfl) rfl, rfl⟩⟩
theorem a_okC8 : a_okC (11, 66, 2, 8) := ⟨a_m8, rfl, a_t2 (List.mem_of_getElem? (i := 9) rfl) rfl, a_t1 (List.mem_of_getElem? (i := 9) rfl) rfl, fun h => absurd h (by decide), fun h => absurd h (by decide), fun _ => ⟨a_t2 (List.mem_of_getElem? (i := 10) rfl) rfl, rfl⟩⟩
theorem a_okC9 : a_okC (13, 13, 0, 9) := ⟨a_m9, rfl, a_t2 (List.mem_of_getElem? (i := 76) rfl) rfl, a_t1 (List.mem_of_getElem? (i := 1) rfl) rfl, fun _ => ⟨a_t2 (List.mem_of_getElem? (i := 77) rfl) rfl, a_t2 (List.mem_of_getElem? (i := 78) rfl) rfl, _, rfl, by decide +kernel⟩, fun h => absurd h (by decide), fun h => absurd h (by decide)⟩
theorem a_okC10 : a_okC (11, 78, 0, 10) := ⟨a_m10, rfl, a_t2 (List.mem_of_getElem? (i := 80) rfl) rfl, a_t1 (List.mem_of_getElem? (i := 1) rfl) rfl, fun _ => ⟨a_t2 (List.mem_of_getElem? (i := 82) rfl) rfl, a_mem_p (List.mem_of_getElem? (i := 0) rfl) rfl, _, rfl, by decide +kernel⟩, fun h => absurd h (by decide), fun h => absurd h (by decide)⟩
theorem a_okC11 : a_okC (13, 18, 0, 11) := ⟨a_m11, rfl, a_t2 (List.mem_of_getElem? (i := 84) rfl) rfl, a_t1 (List.mem_of_getElem? (i := 1) rfl) rfl, fun _ => ⟨a_t2 (List.mem_of_getElem? (i := 85) rfl) rfl, a_t2 (List.mem_of_getElem? (i := 86) rfl) rfl, _, rfl, by decide +kernel⟩, fun h => absurd h (by decide), fun h => absurd h (by decide)⟩
theorem a_okC12 : a_okC (11, 86, 1, 12) := ⟨a_m12, rfl, a_t2 (List.mem_of_getElem? (i := 88) rfl) rfl, a_t1 (List.mem_of_getElem? (i := 1) rfl) rfl, fun h => absurd h (by decide), fun _ => a_t2 (List.mem_of_getElem? (i := 89) rfl) rfl, fun h => absurd h (by decide)⟩
theorem a_okC13 : a_okC (11, 101, 1, 13) := ⟨a_m13, rfl, a_t2 (List.mem_of_getElem? (i := 91) rfl) rfl, a_t1 (List.mem_of_getElem? (i := 1) rfl) rfl, fun h => absurd h (by decide), fun _ => a_t2 (List.mem_of_getElem? (i := 92) rfl) rfl, fun h => absurd h (by decide)⟩
theorem a_okC14 : a_okC (11, 90, 0, 14) := ⟨a_m14, rfl, a_t2 (List.mem_of_getElem? (i := 94) rfl) rfl, a_t1 (List.mem_of_getElem? (i := 2) rfl) rfl, fun _ => ⟨a_t2 (List.mem_of_getElem? (i := 95) rfl) rfl, a_t2 (List.mem_of_getElem? (i := 96) rfl) rfl, _, rfl, by decide +kernel⟩, fun h => absurd h (by decide), fun h => absurd h (by decide)⟩
theorem a_okC15 : a_okC (13, 23, 0, 15) := ⟨a_m15, rfl, a_t2 (List.mem_of_getElem? (i := 98) rfl) rfl, a_t1 (List.mem_of_getElem? (i := 1) rfl) rfl, fun _ => ⟨a_t2 (List.mem_of_getElem? (i := 99) rfl) rfl, a_t2 (List.mem_of_getElem? (i := 100) rfl) rfl, _, rfl, by decide +kernel⟩, fun h => absurd h (by decide), fun h => absurd h (by decide)⟩
theorem a_okC16 : a_okC (11, 97, 0, 16) := ⟨a_m16, rfl, a_t2 (List.mem_of_getElem? (i := 102) rfl) rfl, a_t1 (List.mem_of_getElem? (i := 2) rfl) rfl, fun _ => ⟨a_t2 (List.mem_of_getElem? (i := 103) rfl) rfl, a_t2 (List.mem_of_getElem? (i := 104) rfl) rfl, _, rfl, by decide +kernel⟩, fun h => absurd h (by decide), fun h => absurd h (by decide)⟩
theorem a_okC17 : a_okC (13, 28, 0, 17) := ⟨a_m17, rfl, a_t2 (List.mem_of_getElem? (i := 106) rfl) rfl, a_t1 (List.mem_of_getElem? (i := 1) rfl) rfl, fun _ => ⟨a_t2 (List.mem_of_getElem? (i := 107) rfl) rfl, a_t2 (List.mem_of_getElem? (i := 108) rfl) rfl, _, rfl, by decide +kernel⟩, fun h => absurd h (by decide), fun h => absurd h (by decide)⟩
theorem a_okC18 : a_okC (11, 108, 0, 18) := ⟨a_m18, rfl, a_t2 (List.mem_of_getElem? (i := 110) rfl) rfl, a_t1 (List.mem_of_getElem? (i := 2) rfl) rfl, fun _ => ⟨a_t2 (List.mem_of_getElem? (i := 111) rfl) rfl, a_t2 (List.mem_of_getElem? (i := 112) rfl) rfl, _, rfl, by decide +kernel⟩, fun h => absurd h (by decide), fun h => absurd h (by decide)⟩
theorem a_okC19 : a_okC (1, 34, 0, 19) := ⟨a_m19, rfl, a_t2 (List.mem_of_getElem? (i := 114) rfl) rfl, a_t1 (List.mem_of_getElem? (i := 2) rfl) rfl, fun _ => ⟨a_t2 (List.mem_of_getElem? (i := 115) rfl) rfl, a_t2 (List.mem_of_getElem? (i := 116) rfl) rfl, _, rfl, by decide +kernel⟩, fun h => absurd h (by decide), fun h => absurd h (by decide)⟩
theorem a_okC20 : a_okC (13, 32, 0, 20) := ⟨a_m20, rfl, a_t2 (List.mem_of_getElem? (i := 118) rfl) rfl, a_t1 (List.mem_of_getElem? (i := 1) rfl) rfl, fun _ => ⟨a_t2 (List.mem_of_getElem? (i := 119) rfl) rfl, a_t2 (List.mem_of_getElem? (i := 120) rfl) rfl, _, rfl, by decide +kernel⟩, fun h => absurd h (by decide), fun h => absurd h (by decide)⟩
theorem a_okC21 : a_okC (11, 114, 0, 21) := ⟨a_m21, rfl, a_t2 (List.mem_of_getElem? (i := 122) rfl) rfl, a_t1 (List.mem_of_getElem? (i := 5) rfl) rfl, fun _ => ⟨a_t2 (List.mem_of_getElem? (i := 123) rfl) rfl, a_t2 (List.mem_of_getElem? (i := 124) rfl) rfl, _, rfl, by decide +kernel⟩, fun h => absurd h (by decide), fun h => absurd h (by decide)⟩
theorem a_okC22 : a_okC (5, 41, 2, 22) := ⟨a_m22, rfl, a_t2 (List.mem_of_getElem? (i := 127) rfl) rfl, a_t1 (List.mem_of_getElem? (i := 11) rfl) rfl, fun h => absurd h (by decide), fun h => absurd h (by decide), fun _ => ⟨a_t2 (List.mem_of_getElem? (i := 128) rfl) rfl, rfl⟩⟩
theorem a_okC23 : a_okC (13, 36, 0, 23) := ⟨a_m23, rfl, a_t2 (List.mem_of_getElem? (i := 159) rfl) rfl, a_t1 (List.mem_of_getElem? (i := 1) rfl) rfl, fun _ => ⟨a_t2 (List.mem_of_getElem? (i := 160) rfl) rfl, a_t2 (List.mem_of_getElem? (i := 161) rfl) rfl, _, rfl, by decide +kernel⟩, fun h => absurd h (by decide), fun h => absurd h (by decide)⟩
theorem a_okC24 : a_okC (11, 117, 0, 24) := ⟨a_m24, rfl, a_t2 (List.mem_of_getElem? (i := 163) rfl) rfl, a_t1 (List.mem_of_getElem? (i := 5) rfl) rfl, fun _ => ⟨a_t2 (List.mem_of_getElem? (i := 164) rfl) rfl, a_t2 (List.mem_of_getElem? (i := 165) rfl) rfl, _, rfl, by decide +kernel⟩, fun h => absurd h (by decide), fun h => absurd h (by decide)⟩
theorem a_okC25 : a_okC (11, 120, 0, 25) := ⟨a_m25, rfl, a_t2 (List.mem_of_getElem? (i := 167) rfl) rfl, a_t1 (List.mem_of_getElem? (i := 7) rfl) rfl, fun _ => ⟨a_t2 (List.mem_of_getElem? (i := 168) rfl) rfl, a_t2 (List.mem_of_getElem? (i := 169) rfl) rfl, _, rfl, by decide +kernel⟩, fun h => absurd h (by decide), fun h => absurd h (by decide)⟩
theorem a_okC26 : a_okC (11, 123, 0, 26) := ⟨a_m26, rfl, a_t2 (List.mem_of_getElem? (i := 171) rfl) rfl, a_t1 (List.mem_of_getElem? (i := 6) rfl) rfl, fun _ => ⟨a_t2 (List.mem_of_getElem? (i := 172) rfl) rfl, a_t2 (List.mem_of_getElem? (i := 173) rfl) rfl, _, rfl, by decide +kernel⟩, fun h => absurd h (by decide), fun h => absurd h (by decide)⟩
theorem a_okC27 : a_okC (6, 37, 0, 27) := ⟨a_m27, rfl, a_t2 (List.mem_of_getElem? (i := 175) rfl) rfl, a_t1 (List.mem_of_getElem? (i := 6) rfl) rfl, fun _ => ⟨a_t2 (List.mem_of_getElem? (i := 176) rfl) rfl, a_t2 (List.mem_of_getElem? (i := 177) rfl) rfl, _, rfl, by decide +kernel⟩, fun h => absurd h (by decide), fun h => absurd h (by decide)⟩
theorem a_okC28 : a_okC (6, 43, 0, 28) := ⟨a_m28, rfl, a_t2 (List.mem_of_getElem? (i := 179) rfl) rfl, a_t1 (List.mem_of_getElem? (i := 6) rfl) rfl, fun _ => ⟨a_t2 (List.mem_of_getElem? (i := 180) rfl) rfl, a_t2 (List.mem_of_getElem? (i := 181) rfl) rfl, _, rfl, by decide +kernel⟩, fun h => absurd h (by decide), fun h => absurd h (by decide)⟩
theorem a_okC29 : a_okC (6, 74, 0, 29) := ⟨a_m29, rfl, a_t2 (List.mem_of_getElem? (i := 183) rfl) rfl, a_t1 (List.mem_of_getElem? (i := 6) rfl) rfl, fun _ => ⟨a_t2 (List.mem_of_getElem? (i := 184) rfl) rfl, a_t2 (List.mem_of_getElem? (i := 185) rfl) rfl, _, rfl, by decide +kernel⟩, fun h => absurd h (by decide), fun h => absurd h (by decide)⟩
theorem a_okC30 : a_okC (6, 62, 0, 30) := ⟨a_m30, rfl, a_t2 (List.mem_of_getElem? (i := 187) rfl) rfl, a_t1 (List.mem_of_getElem? (i := 6) rfl) rfl, fun _ => ⟨a_t2 (List.mem_of_getElem? (i := 188) rfl) rfl, a_t2 (List.mem_of_getElem? (i := 189) rfl) rfl, _, rfl, by decide +kernel⟩, fun h => absurd h (by decide), fun h => absurd h (by decide)⟩
theorem a_okC31 : a_okC (6, 78, 1, 31) := ⟨a_m31, rfl, a_t2 (List.mem_of_getElem? (i := 191) rfl) rfl, a_t1 (List.mem_of_getElem? (i := 12) rfl) rfl, fun h => absurd h (by decide), fun _ => a_t2 (List.mem_of_getElem? (i := 192) rfl) rfl, fun h => absurd h (by decide)⟩
theorem a_okC32 : a_okC (6, 52, 0, 32) := ⟨a_m32, rfl, a_t2 (List.mem_of_getElem? (i := 194) rfl) rfl, a_t1 (List.mem_of_getElem? (i := 5) rfl) rfl, fun _ => ⟨a_t2 (List.mem_of_getElem? (i := 195) rfl) rfl, a_t2 (List.mem_of_getElem? (i := 196) rfl) rfl, _, rfl, by decide +kernel⟩, fun h => absurd h (by decide), fun h => absurd h (by decide)⟩
theorem a_okC33 : a_okC (6, 56, 0, 33) := ⟨a_m33, rfl, a_t2 (List.mem_of_getElem? (i := 198) rfl) rfl, a_t1 (List.mem_of_getElem? (i := 6) rfl) rfl, fun _ => ⟨a_t2 (List.mem_of_getElem? (i := 199) rfl) rfl, a_t2 (List.mem_of_getElem? (i := 200) rfl) rfl, _, rfl, by decide +kernel⟩, fun h => absurd h (by decide), fun h => absurd h (by decide)⟩
theorem a_okC34 : a_okC (6, 66, 1, 34) := ⟨a_m34, rfl, a_t2 (List.mem_of_getElem? (i := 202) rfl) rfl, a_t1 (List.mem_of_getElem? (i := 12) rfl) rfl, fun h => absurd h (by decide), fun _ => a_t2 (List.mem_of_getElem? (i := 203) rfl) rfl, fun h => absurd h (by decide)⟩
theorem a_okC35 : a_okC (6, 71, 1, 35) := ⟨a_m35, rfl, a_t2 (List.mem_of_getElem? (i := 205) rfl) rfl, a_t1 (List.mem_of_getElem? (i := 12) rfl) rfl, fun h => absurd h (by decide), fun _ => a_t2 (List.mem_of_getElem? (i := 206) rfl) rfl, fun h => absurd h (by decide)⟩
theorem a_okC36 : a_okC (13, 40, 0, 36) := ⟨a_m36, rfl, a_t2 (List.mem_of_getElem? (i := 208) rfl) rfl, a_t1 (List.mem_of_getElem? (i := 1) rfl) rfl, fun _ => ⟨a_t2 (List.mem_of_getElem? (i := 209) rfl) rfl, a_t2 (List.mem_of_getElem? (i := 210) rfl) rfl, _, rfl, by decide +kernel⟩, fun h => absurd h (by decide), fun h => absurd h (by decide)⟩
theorem a_okC37 : a_okC (11, 128, 2, 37) := ⟨a_m37, rfl, a_t2 (List.mem_of_getElem? (i := 214) rfl) rfl, a_t1 (List.mem_of_getElem? (i := 13) rfl) rfl, fun h => absurd h (by decide), fun h => absurd h (by decide), fun _ => ⟨a_t2 (List.mem_of_getElem? (i := 215) rfl) rfl, rfl⟩⟩
theorem a_okC38 : a_okC (13, 45, 0, 38) := ⟨a_m38, rfl, a_t3 (List.mem_of_getElem? (i := 80) rfl) rfl, a_t1 (List.mem_of_getElem? (i := 1) rfl) rfl, fun _ => ⟨a_t3 (List.mem_of_getElem? (i := 81) rfl) rfl, a_t3 (List.mem_of_getElem? (i := 82) rfl) rfl, _, rfl, by decide +kernel⟩, fun h => absurd h (by decide), fun h => absurd h (by decide)⟩
theorem a_okC39 : a_okC (11, 135, 1, 39) := ⟨a_m39, rfl, a_t3 (List.mem_of_getElem? (i := 84) rfl) rfl, a_t1 (List.mem_of_getElem? (i := 1) rfl) rfl, fun h => absurd h (by decide), fun _ => a_t3 (List.mem_of_getElem? (i := 85) rfl) rfl, fun h => absurd h (by decide)⟩
theorem a_okC40 : a_okC (11, 139, 1, 40) := ⟨a_m40, rfl, a_t3 (List.mem_of_getElem? (i := 87) rfl) rfl, a_t1 (List.mem_of_getElem? (i := 1) rfl) rfl, fun h => absurd h (by decide), fun _ => a_t3 (List.mem_of_getElem? (i := 88) rfl) rfl, fun h => absurd h (by decide)⟩
theorem a_okC41 : a_okC (11, 145, 0, 32) := ⟨a_m32, rfl, a_t3 (List.mem_of_getElem? (i := 90) rfl) rfl, a_t1 (List.mem_of_getElem? (i := 5) rfl) rfl, fun _ => ⟨a_t2 (List.mem_of_getElem? (i := 195) rfl) rfl, a_t2 (List.mem_of_getElem? (i := 196) rfl) rfl, _, rfl, by decide +kernel⟩, fun h => absurd h (by decide), fun h => absurd h (by decide)⟩
theorem a_okC42 : a_okC (11, 149, 0, 41) := ⟨a_m41, rfl, a_t3 (List.mem_of_getElem? (i := 91) rfl) rfl, a_t1 (List.mem_of_getElem? (i := 13) rfl) rfl, fun _ => ⟨a_t3 (List.mem_of_getElem? (i := 92) rfl) rfl, a_t3 (List.mem_of_getElem? (i := 93) rfl) rfl, _, rfl, by decide +kernel⟩, fun h => absurd h (by decide), fun h => absurd h (by decide)⟩
theorem a_okC43 : a_okC (11, 152, 0, 42) := ⟨a_m42, rfl, a_t3 (List.mem_of_getElem? (i := 95) rfl) rfl, a_t1 (List.mem_of_getElem? (i := 13) rfl) rfl, fun _ => ⟨a_t3 (List.mem_of_getElem? (i := 96) rfl) rfl, a_t3 (List.mem_of_getElem? (i := 97) rfl) rfl, _, rfl, by decide +kernel⟩, fun h => absurd h (by decide), fun h => absurd h (by decide)⟩
theorem a_okC44 : a_okC (11, 156, 0, 43) := ⟨a_m43, rfl, a_t3 (List.mem_of_getElem? (i := 99) rfl) rfl, a_t1 (List.mem_of_getElem? (i := 5) rfl) rfl, fun _ => ⟨a_t3 (List.mem_of_getElem? (i := 100) rfl) rfl, a_t3 (List.mem_of_getElem? (i := 101) rfl) rfl, _, rfl, by decide +kernel⟩, fun h => absurd h (by decide), fun h => absurd h (by decide)⟩
theorem a_okC45 : a_okC (13, 50, 0, 44) := ⟨a_m44, rfl, a_t3 (List.mem_of_getElem? (i := 103) rfl) rfl, a_t1 (List.mem_of_getElem? (i := 1) rfl) rfl, fun _ => ⟨a_t3 (List.mem_of_getElem? (i := 104) rfl) rfl, a_t3 (List.mem_of_getElem? (i := 105) rfl) rfl, _, rfl, by decide +kernel⟩, fun h => absurd h (by decide), fun h => absurd h (by decide)⟩
theorem a_okC46 : a_okC (11, 164, 0, 45) := ⟨a_m45, rfl, a_t3 (List.mem_of_getElem? (i := 107) rfl) rfl, a_t1 (List.mem_of_getElem? (i := 5) rfl) rfl, fun _ => ⟨a_t3 (List.mem_of_getElem? (i := 108) rfl) rfl, a_t3 (List.mem_of_getElem? (i := 109) rfl) rfl, _, rfl, by decide +kernel⟩, fun h => absurd h (by decide), fun h => absurd h (by decide)⟩
theorem a_okC47 : a_okC (5, 120, 0, 46) := ⟨a_m46, rfl, a_t3 (List.mem_of_getElem? (i := 111) rfl) rfl, a_t1 (List.mem_of_getElem? (i := 5) rfl) rfl, fun _ => ⟨a_t3 (List.mem_of_getElem? (i := 112) rfl) rfl, a_t3 (List.mem_of_getElem? (i := 113) rfl) rfl, _, rfl, by decide +kernel⟩, fun h => absurd h (by decide), fun h => absurd h (by decide)⟩
theorem a_okC48 : a_okC (5, 207, 0, 47) := ⟨a_m47, rfl, a_t3 (List.mem_of_getElem? (i := 115) rfl) rfl, a_t1 (List.mem_of_getElem? (i := 11) rfl) rfl, fun _ => ⟨a_t3 (List.mem_of_getElem? (i := 116) rfl) rfl, a_t3 (List.mem_of_getElem? (i := 117) rfl) rfl, _, rfl, by decide +kernel⟩, fun h => absurd h (by decide), fun h => absurd h (by decide)⟩
theorem a_okC49 : a_okC (2, 39, 0, 48) := ⟨a_m48, rfl, a_t3 (List.mem_of_getElem? (i := 119) rfl) rfl, a_t1 (List.mem_of_getElem? (i := 11) rfl) rfl, fun _ => ⟨a_t3 (List.mem_of_getElem? (i := 120) rfl) rfl, a_t3 (List.mem_of_getElem? (i := 121) rfl) rfl, _, rfl, by decide +kernel⟩, fun h => absurd h (by decide), fun h => absurd h (by decide)⟩
theorem a_okC50 : a_okC (2, 46, 0, 49) := ⟨a_m49, rfl, a_t3 (List.mem_of_getElem? (i := 126) rfl) rfl, a_t1 (List.mem_of_getElem? (i := 13) rfl) rfl, fun _ => ⟨a_t3 (List.mem_of_getElem? (i := 127) rfl) rfl, a_t3 (List.mem_of_getElem? (i := 128) rfl) rfl, _, rfl, by decide +kernel⟩, fun h => absurd h (by decide), fun h => absurd h (by decide)⟩
theorem a_okC51 : a_okC (5, 183, 0, 49) := ⟨a_m49, rfl, a_t3 (List.mem_of_getElem? (i := 130) rfl) rfl, a_t1 (List.mem_of_getElem? (i := 13) rfl) rfl, fun _ => ⟨a_t3 (List.mem_of_getElem? (i := 127) rfl) rfl, a_t3 (List.mem_of_getElem? (i := 128) rfl) rfl, _, rfl, by decide +kernel⟩, fun h => absurd h (by decide), fun h => absurd h (by decide)⟩
theorem a_okC52 : a_okC (5, 200, 0, 50) := ⟨a_m50, rfl, a_t3 (List.mem_of_getElem? (i := 131) rfl) rfl, a_t1 (List.mem_of_getElem? (i := 11) rfl) rfl, fun _ => ⟨a_t3 (List.mem_of_getElem? (i := 132) rfl) rfl, a_t3 (List.mem_of_getElem? (i := 133) rfl) rfl, _, rfl, by decide +kernel⟩, fun h => absurd h (by decide), fun h => absurd h (by decide)⟩
theorem a_okC53 : a_okC (5, 211, 0, 51) := ⟨a_m51, rfl, a_t3 (List.mem_of_getElem? (i := 135) rfl) rfl, a_t1 (List.mem_of_getElem? (i := 5) rfl) rfl, fun _ => ⟨a_t3 (List.mem_of_getElem? (i := 136) rfl) rfl, a_t3 (List.mem_of_getElem? (i := 137) rfl) rfl, _, rfl, by decide +kernel⟩, fun h => absurd h (by decide), fun h => absurd h (by decide)⟩
theorem a_okC54 : a_okC (5, 225, 0, 52) := ⟨a_m52, rfl, a_t3 (List.mem_of_getElem? (i := 140) rfl) rfl, a_t1 (List.mem_of_getElem? (i := 11) rfl) rfl, fun _ => ⟨a_t3 (List.mem_of_getElem? (i := 141) rfl) rfl, a_t3 (List.mem_of_getElem? (i := 142) rfl) rfl, _, rfl, by decide +kernel⟩, fun h => absurd h (by decide), fun h => absurd h (by decide)⟩
theorem a_okC55 : a_okC (13, 54, 0, 53) := ⟨a_m53, rfl, a_t3 (List.mem_of_getElem? (i := 144) rfl) rfl, a_t1 (List.mem_of_getElem? (i := 1) rfl) rfl, fun _ => ⟨a_t3 (List.mem_of_getElem? (i := 145) rfl) rfl, a_t3 (List.mem_of_getElem? (i := 146) rfl) rfl, _, rfl, by decide +kernel⟩, fun h => absurd h (by decide), fun h => absurd h (by decide)⟩
theorem a_okC56 : a_okC (11, 189, 0, 54) := ⟨a_m54, rfl, a_t3 (List.mem_of_getElem? (i := 148) rfl) rfl, a_t1 (List.mem_of_getElem? (i := 5) rfl) rfl, fun _ => ⟨a_t3 (List.mem_of_getElem? (i := 149) rfl) rfl, a_t3 (List.mem_of_getElem? (i := 150) rfl) rfl, _, rfl, by decide +kernel⟩, fun h => absurd h (by decide), fun h => absurd h (by decide)⟩
theorem a_okC57 : a_okC (5, 56, 0, 55) := ⟨a_m55, rfl, a_t3 (List.mem_of_getElem? (i := 152) rfl) rfl, a_t1 (List.mem_of_getElem? (i := 13) rfl) rfl, fun _ => ⟨a_t3 (List.mem_of_getElem? (i := 153) rfl) rfl, a_t3 (List.mem_of_getElem? (i := 154) rfl) rfl, _, rfl, by decide +kernel⟩, fun h => absurd h (by decide), fun h => absurd h (by decide)⟩
theorem a_okC58 : a_okC (5, 70, 0, 56) := ⟨a_m56, rfl, a_t3 (List.mem_of_getElem? (i := 156) rfl) rfl, a_t1 (List.mem_of_getElem? (i := 2) rfl) rfl, fun _ => ⟨a_t3 (List.mem_of_getElem? (i := 157) rfl) rfl, a_t3 (List.mem_of_getElem? (i := 158) rfl) rfl, _, rfl, by decide +kernel⟩, fun h => absurd h (by decide), fun h => absurd h (by decide)⟩
theorem a_okC59 : a_okC (1, 38, 1, 57) := ⟨a_m57, rfl, a_t3 (List.mem_of_getElem? (i := 160) rfl) rfl, a_t1 (List.mem_of_getElem? (i := 15) rfl) rfl, fun h => absurd h (by decide), fun _ => a_t3 (List.mem_of_getElem? (i := 161) rfl) rfl, fun h => absurd h (by decide)⟩
theorem a_okC60 : a_okC (11, 192, 0, 58) := ⟨a_m58, rfl, a_t3 (List.mem_of_getElem? (i := 166) rfl) rfl, a_t1 (List.mem_of_getElem? (i := 5) rfl) rfl, fun _ => ⟨a_t3 (List.mem_of_getElem? (i := 167) rfl) rfl, a_t3 (List.mem_of_getElem? (i := 168) rfl) rfl, _, rfl, by decide +kernel⟩, fun h => absurd h (by decide), fun h => absurd h (by decide)⟩
theorem a_okC61 : a_okC (5, 76, 0, 54) := ⟨a_m54, rfl, a_t3 (List.mem_of_getElem? (i := 170) rfl) rfl, a_t1 (List.mem_of_getElem? (i := 5) rfl) rfl, fun _ => ⟨a_t3 (List.mem_of_getElem? (i := 149) rfl) rfl, a_t3 (List.mem_of_getElem? (i := 150) rfl) rfl, _, rfl, by decide +kernel⟩, fun h => absurd h (by decide), fun h => absurd h (by decide)⟩
theorem a_okC62 : a_okC (5, 80, 0, 59) := ⟨a_m59, rfl, a_t3 (List.mem_of_getElem? (i := 171) rfl) rfl, a_t1 (List.mem_of_getElem? (i := 3) rfl) rfl, fun _ => ⟨a_t3 (List.mem_of_getElem? (i := 172) rfl) rfl, a_t3 (List.mem_of_getElem? (i := 173) rfl) rfl, _, rfl, by decide +kernel⟩, fun h => absurd h (by decide), fun h => absurd h (by decide)⟩
theorem a_okC63 : a_okC (8, 85, 0, 60) := ⟨a_m60, rfl, a_t3 (List.mem_of_getElem? (i := 175) rfl) rfl, a_t1 (List.mem_of_getElem? (i := 3) rfl) rfl, fun _ => ⟨a_t3 (List.mem_of_getElem? (i := 176) rfl) rfl, a_t3 (List.mem_of_getElem? (i := 177) rfl) rfl, _, rfl, by decide +kernel⟩, fun h => absurd h (by decide), fun h => absurd h (by decide)⟩
theorem a_okC64 : a_okC (8, 61, 0, 61) := ⟨a_m61, rfl, a_t3 (List.mem_of_getElem? (i := 179) rfl) rfl, a_t1 (List.mem_of_getElem? (i := 3) rfl) rfl, fun _ => ⟨a_t3 (List.mem_of_getElem? (i := 180) rfl) rfl, a_t3 (List.mem_of_getElem? (i := 181) rfl) rfl, _, rfl, by decide +kernel⟩, fun h => absurd h (by decide), fun h => absurd h (by decide)⟩
theorem a_okC65 : a_okC (8, 68, 0, 62) := ⟨a_m62, rfl, a_t3 (List.mem_of_getElem? (i := 183) rfl) rfl, a_t1 (List.mem_of_getElem? (i := 16) rfl) rfl, fun _ => ⟨a_t3 (List.mem_of_getElem? (i := 184) rfl) rfl, a_t3 (List.mem_of_getElem? (i := 185) rfl) rfl, _, rfl, by decide +kernel⟩, fun h => absurd h (by decide), fun h => absurd h (by decide)⟩
theorem a_okC66 : a_okC (8, 57, 0, 63) := ⟨a_m63, rfl, a_t3 (List.mem_of_getElem? (i := 187) rfl) rfl, a_t1 (List.mem_of_getElem? (i := 3) rfl) rfl, fun _ => ⟨a_t3 (List.mem_of_getElem? (i := 188) rfl) rfl, a_t3 (List.mem_of_getElem? (i := 189) rfl) rfl, _, rfl, by decide +kernel⟩, fun h => absurd h (by decide), fun h => absurd h (by decide)⟩
theorem a_okC67 : a_okC (8, 51, 1, 35) := ⟨a_m35, rfl, a_t3 (List.mem_of_getElem? (i := 191) rfl) rfl, a_t1 (List.mem_of_getElem? (i := 12) rfl) rfl, fun h => absurd h (by decide), fun _ => a_t2 (List.mem_of_getElem? (i := 206) rfl) rfl, fun h => absurd h (by decide)⟩
theorem a_okC68 : a_okC (8, 72, 0, 64) := ⟨a_m64, rfl, a_t3 (List.mem_of_getElem? (i := 192) rfl) rfl, a_t1 (List.mem_of_getElem? (i := 16) rfl) rfl, fun _ => ⟨a_t3 (List.mem_of_getElem? (i := 193) rfl) rfl, a_t3 (List.mem_of_getElem? (i := 194) rfl) rfl, _, rfl, by decide +kernel⟩, fun h => absurd h (by decide), fun h => absurd h (by decide)⟩
theorem a_okC69 : a_okC (10, 25, 1, 65) := ⟨a_m65, rfl, a_t3 (List.mem_of_getElem? (i := 196) rfl) rfl, a_t1 (List.mem_of_getElem? (i := 16) rfl) rfl, fun h => absurd h (by decide), fun _ => a_t3 (List.mem_of_getElem? (i := 197) rfl) rfl, fun h => absurd h (by decide)⟩
theorem a_okC70 : a_okC (8, 91, 1, 34) := ⟨a_m34, rfl, a_t3 (List.mem_of_getElem? (i := 199) rfl) rfl, a_t1 (List.mem_of_getElem? (i := 12) rfl) rfl, fun h => absurd h (by decide), fun _ => a_t2 (List.mem_of_getElem? (i := 203) rfl) rfl, fun h => absurd h (by decide)⟩
theorem a_okC71 : a_okC (13, 60, 0, 66) := ⟨a_m66, rfl, a_t3 (List.mem_of_getElem? (i := 200) rfl) rfl, a_t1 (List.mem_of_getElem? (i := 1) rfl) rfl, fun _ => ⟨a_t3 (List.mem_of_getElem? (i := 201) rfl) rfl, a_t3 (List.mem_of_getElem? (i := 202) rfl) rfl, _, rfl, by decide +kernel⟩, fun h => absurd h (by decide), fun h => absurd h (by decide)⟩
theorem a_okC72 : a_okC (11, 198, 0, 67) := ⟨a_m67, rfl, a_t3 (List.mem_of_getElem? (i := 204) rfl) rfl, a_t1 (List.mem_of_getElem? (i := 4) rfl) rfl, fun _ => ⟨a_t3 (List.mem_of_getElem? (i := 205) rfl) rfl, a_t3 (List.mem_of_getElem? (i := 206) rfl) rfl, _, rfl, by decide +kernel⟩, fun h => absurd h (by decide), fun h => absurd h (by decide)⟩
theorem a_okC73 : a_okC (13, 65, 0, 68) := ⟨a_m68, rfl, a_t3 (List.mem_of_getElem? (i := 209) rfl) rfl, a_t1 (List.mem_of_getElem? (i := 1) rfl) rfl, fun _ => ⟨a_t3 (List.mem_of_getElem? (i := 210) rfl) rfl, a_t3 (List.mem_of_getElem? (i := 211) rfl) rfl, _, rfl, by decide +kernel⟩, fun h => absurd h (by decide), fun h => absurd h (by decide)⟩
theorem a_okC74 : a_okC (11, 205, 0, 69) := ⟨a_m69, rfl, a_t3 (List.mem_of_getElem? (i := 213) rfl) rfl, a_t1 (List.mem_of_getElem? (i := 4) rfl) rfl, fun _ => ⟨a_t3 (List.mem_of_getElem? (i := 214) rfl) rfl, a_t3 (List.mem_of_getElem? (i := 215) rfl) rfl, _, rfl, by decide +kernel⟩, fun h => absurd h (by decide), fun h => absurd h (by decide)⟩
theorem a_okC75 : a_okC (9, 36, 0, 70) := ⟨a_m70, rfl, a_t3 (List.mem_of_getElem? (i := 217) rfl) rfl, a_t1 (List.mem_of_getElem? (i := 4) rfl) rfl, fun _ => ⟨a_t3 (List.mem_of_getElem? (i := 218) rfl) rfl, a_t3 (List.mem_of_getElem? (i := 219) rfl) rfl, _, rfl, by decide +kernel⟩, fun h => absurd h (by decide), fun h => absurd h (by decide)⟩
theorem a_okC76 : a_okC (9, 40, 0, 71) := ⟨a_m71, rfl, a_t3 (List.mem_of_getElem? (i := 221) rfl) rfl, a_t1 (List.mem_of_getElem? (i := 4) rfl) rfl, fun _ => ⟨a_t3 (List.mem_of_getElem? (i := 222) rfl) rfl, a_t3 (List.mem_of_getElem? (i := 223) rfl) rfl, _, rfl, by decide +kernel⟩, fun h => absurd h (by decide), fun h => absurd h (by decide)⟩
theorem a_okC77 : a_okC (9, 44, 0, 72) := ⟨a_m72, rfl, a_t3 (List.mem_of_getElem? (i := 225) rfl) rfl, a_t1 (List.mem_of_getElem? (i := 4) rfl) rfl, fun _ => ⟨a_t3 (List.mem_of_getElem? (i := 226) rfl) rfl, a_t3 (List.mem_of_getElem? (i := 227) rfl) rfl, _, rfl, by decide +kernel⟩, fun h => absurd h (by decide), fun h => absurd h (by decide)⟩
theorem a_okC78 : a_okC (9, 66, 0, 73) := ⟨a_m73, rfl, a_t3 (List.mem_of_getElem? (i := 229) rfl) rfl, a_t1 (List.mem_of_getElem? (i := 4) rfl) rfl, fun _ => ⟨a_t3 (List.mem_of_getElem? (i := 230) rfl) rfl, a_t3 (List.mem_of_getElem? (i := 231) rfl) rfl, _, rfl, by decide +kernel⟩, fun h => absurd h (by decide), fun h => absurd h (by decide)⟩
theorem a_okC79 : a_okC (9, 69, 1, 74) := ⟨a_m74, rfl, a_t3 (List.mem_of_getElem? (i := 233) rfl) rfl, a_t1 (List.mem_of_getElem? (i := 4) rfl) rfl, fun h => absurd h (by decide), fun _ => a_t3 (List.mem_of_getElem? (i := 234) rfl) rfl, fun h => absurd h (by decide)⟩
theorem a_okC80 : a_okC (9, 55, 0, 75) := ⟨a_m75, rfl, a_t3 (List.mem_of_getElem? (i := 236) rfl) rfl, a_t1 (List.mem_of_getElem? (i := 4) rfl) rfl, fun _ => ⟨a_t3 (List.mem_of_getElem? (i := 237) rfl) rfl, a_t3 (List.mem_of_getElem? (i := 238) rfl) rfl, _, rfl, by decide +kernel⟩, fun h => absurd h (by decide), fun h => absurd h (by decide)⟩
theorem a_okC81 : a_okC (9, 62, 1, 76) := ⟨a_m76, rfl, a_t4 (List.mem_of_getElem? (i := 0) rfl) rfl, a_t1 (List.mem_of_getElem? (i := 4) rfl) rfl, fun h => absurd h (by decide), fun _ => a_t4 (List.mem_of_getElem? (i := 1) rfl) rfl, fun h => absurd h (by decide)⟩
theorem a_okC82 : a_okC (9, 48, 0, 77) := ⟨a_m77, rfl, a_t4 (List.mem_of_getElem? (i := 3) rfl) rfl, a_t1 (List.mem_of_getElem? (i := 4) rfl) rfl, fun _ => ⟨a_t4 (List.mem_of_getElem? (i := 5) rfl) rfl, a_mem_p (List.mem_of_getElem? (i := 1) rfl) rfl, _, rfl, by decide +kernel⟩, fun h => absurd h (by decide), fun h => absurd h (by decide)⟩
theorem a_okC83 : a_okC (9, 52, 0, 78) := ⟨a_m78, rfl, a_t4 (List.mem_of_getElem? (i := 7) rfl) rfl, a_t1 (List.mem_of_getElem? (i := 4) rfl) rfl, fun _ => ⟨a_t4 (List.mem_of_getElem? (i := 9) rfl) rfl, a_mem_p (List.mem_of_getElem? (i := 2) rfl) rfl, _, rfl, by decide +kernel⟩, fun h => absurd h (by decide), fun h => absurd h (by decide)⟩
theorem a_okC84 : a_okC (9, 59, 0, 79) := ⟨a_m79, rfl, a_t4 (List.mem_of_getElem? (i := 11) rfl) rfl, a_t1 (List.mem_of_getElem? (i := 4) rfl) rfl, fun _ => ⟨a_t4 (List.mem_of_getElem? (i := 12) rfl) rfl, a_t4 (List.mem_of_getElem? (i := 13) rfl) rfl, _, rfl, by decide +kernel⟩, fun h => absurd h (by decide), fun h => absurd h (by decide)⟩
theorem a_okC85 : a_okC (11, 209, 0, 80) := ⟨a_m80, rfl, a_t4 (List.mem_of_getElem? (i := 15) rfl) rfl, a_t1 (List.mem_of_getElem? (i := 4) rfl) rfl, fun _ => ⟨a_t4 (List.mem_of_getElem? (i := 16) rfl) rfl, a_t4 (List.mem_of_getElem? (i := 17) rfl) rfl, _, rfl, by decide +kernel⟩, fun h => absurd h (by decide), fun h => absurd h (by decide)⟩
theorem a_okC86 : a_okC (11, 213, 0, 81) := ⟨a_m81, rfl, a_t4 (List.mem_of_getElem? (i := 19) rfl) rfl, a_t1 (List.mem_of_getElem? (i := 4) rfl) rfl, fun _ => ⟨a_t4 (List.mem_of_getElem? (i := 20) rfl) rfl, a_t4 (List.mem_of_getElem? (i := 21) rfl) rfl, _, rfl, by decide +kernel⟩, fun h => absurd h (by decide), fun h => absurd h (by decide)⟩
theorem a_okC87 : a_okC (11, 217, 0, 82) := ⟨a_m82, rfl, a_t4 (List.mem_of_getElem? (i := 24) rfl) rfl, a_t1 (List.mem_of_getElem? (i := 3) rfl) rfl, fun _ => ⟨a_t4 (List.mem_of_getElem? (i := 25) rfl) rfl, a_t4 (List.mem_of_getElem? (i := 26) rfl) rfl, _, rfl, by decide +kernel⟩, fun h => absurd h (by decide), fun h => absurd h (by decide)⟩
theorem a_okC88 : a_okC (8, 28, 2, 83) := ⟨a_m83, rfl, a_t4 (List.mem_of_getElem? (i := 29) rfl) rfl, a_t1 (List.mem_of_getElem? (i := 16) rfl) rfl, fun h => absurd h (by decide), fun h => absurd h (by decide), fun _ => ⟨a_t4 (List.mem_of_getElem? (i := 30) rfl) rfl, rfl⟩⟩
theorem a_okC89 : a_okC (13, 69, 0, 84) := ⟨a_m84, rfl, a_t4 (List.mem_of_getElem? (i := 52) rfl) rfl, a_t1 (List.mem_of_getElem? (i := 1) rfl) rfl, fun _ => ⟨a_t4 (List.mem_of_getElem? (i := 53) rfl) rfl, a_t4 (List.mem_of_getElem? (i := 54) rfl) rfl, _, rfl, by decide +kernel⟩, fun h => absurd h (by decide), fun h => absurd h (by decide)⟩
theorem a_okC90 : a_okC (11, 224, 0, 61) := ⟨a_m61, rfl, a_t4 (List.mem_of_getElem? (i := 56) rfl) rfl, a_t1 (List.mem_of_getElem? (i := 3) rfl) rfl, fun _ => ⟨a_t3 (List.mem_of_getElem? (i := 180) rfl) rfl, a_t3 (List.mem_of_getElem? (i := 181) rfl) rfl, _, rfl, by decide +kernel⟩, fun h => absurd h (by decide), fun h => absurd h (by decide)⟩
theorem a_okC91 : a_okC (13, 73, 0, 85) := ⟨a_m85, rfl, a_t4 (List.mem_of_getElem? (i := 57) rfl) rfl, a_t1 (List.mem_of_getElem? (i := 1) rfl) rfl, fun _ => ⟨a_t4 (List.mem_of_getElem? (i := 58) rfl) rfl, a_t4 (List.mem_of_getElem? (i := 59) rfl) rfl, _, rfl, by decide +kernel⟩, fun h => absurd h (by decide), fun h => absurd h (by decide)⟩
theorem a_okC92 : a_okC (11, 236, 0, 46) := ⟨a_m46, rfl, a_t4 (List.mem_of_getElem? (i := 61) rfl) rfl, a_t1 (List.mem_of_getElem? (i := 5) rfl) rfl, fun _ => ⟨a_t3 (List.mem_of_getElem? (i := 112) rfl) rfl, a_t3 (List.mem_of_getElem? (i := 113) rfl) rfl, _, rfl, by decide +kernel⟩, fun h => absurd h (by decide), fun h => absurd h (by decide)⟩
theorem a_okC93 : a_okC (11, 240, 0, 86) := ⟨a_m86, rfl, a_t4 (List.mem_of_getElem? (i := 62) rfl) rfl, a_t1 (List.mem_of_getElem? (i := 3) rfl) rfl, fun _ => ⟨a_t4 (List.mem_of_getElem? (i := 63) rfl) rfl, a_t4 (List.mem_of_getElem? (i := 64) rfl) rfl, _, rfl, by decide +kernel⟩, fun h => absurd h (by decide), fun h => absurd h (by decide)⟩
theorem a_okC94 : a_okC (11, 244, 0, 87) := ⟨a_m87, rfl, a_t4 (List.mem_of_getElem? (i := 66) rfl) rfl, a_t1 (List.mem_of_getElem? (i := 3) rfl) rfl, fun _ => ⟨a_t4 (List.mem_of_getElem? (i := 67) rfl) rfl, a_t4 (List.mem_of_getElem? (i := 68) rfl) rfl, _, rfl, by decide +kernel⟩, fun h => absurd h (by decide), fun h => absurd h (by decide)⟩
theorem a_okC95 : a_okC (8, 76, 0, 88) := ⟨a_m88, rfl, a_t4 (List.mem_of_getElem? (i := 70) rfl) rfl, a_t1 (List.mem_of_getElem? (i := 3) rfl) rfl, fun _ => ⟨a_t4 (List.mem_of_getElem? (i := 71) rfl) rfl, a_t4 (List.mem_of_getElem? (i := 72) rfl) rfl, _, rfl, by decide +kernel⟩, fun h => absurd h (by decide), fun h => absurd h (by decide)⟩
theorem a_okC96 : a_okC (13, 77, 0, 89) := ⟨a_m89, rfl, a_t4 (List.mem_of_getElem? (i := 74) rfl) rfl, a_t1 (List.mem_of_getElem? (i := 1) rfl) rfl, fun _ => ⟨a_t4 (List.mem_of_getElem? (i := 75) rfl) rfl, a_t4 (List.mem_of_getElem? (i := 76) rfl) rfl, _, rfl, by decide +kernel⟩, fun h => absurd h (by decide), fun h => absurd h (by decide)⟩
theorem a_okC97 : a_okC (11, 248, 1, 90) := ⟨a_m90, rfl, a_t4 (List.mem_of_getElem? (i := 78) rfl) rfl, a_t1 (List.mem_of_getElem? (i := 1) rfl) rfl, fun h => absurd h (by decide), fun _ => a_t4 (List.mem_of_getElem? (i := 79) rfl) rfl, fun h => absurd h (by decide)⟩
theorem a_okC98 : a_okC (11, 251, 0, 91) := ⟨a_m91, rfl, a_t4 (List.mem_of_getElem? (i := 81) rfl) rfl, a_t1 (List.mem_of_getElem? (i := 6) rfl) rfl, fun _ => ⟨a_t4 (List.mem_of_getElem? (i := 82) rfl) rfl, a_t4 (List.mem_of_getElem? (i := 83) rfl) rfl, _, rfl, by decide +kernel⟩, fun h => absurd h (by decide), fun h => absurd h (by decide)⟩
theorem a_okC99 : a_okC (13, 81, 0, 92) := ⟨a_m92, rfl, a_t4 (List.mem_of_getElem? (i := 85) rfl) rfl, a_t1 (List.mem_of_getElem? (i := 1) rfl) rfl, fun _ => ⟨a_t4 (List.mem_of_getElem? (i := 86) rfl) rfl, a_t4 (List.mem_of_getElem? (i := 87) rfl) rfl, _, rfl, by decide +kernel⟩, fun h => absurd h (by decide), fun h => absurd h (by decide)⟩
theorem a_okC100 : a_okC (11, 254, 0, 93) := ⟨a_m93, rfl, a_t4 (List.mem_of_getElem? (i := 89) rfl) rfl, a_t1 (List.mem_of_getElem? (i := 6) rfl) rfl, fun _ => ⟨a_t4 (List.mem_of_getElem? (i := 90) rfl) rfl, a_t4 (List.mem_of_getElem? (i := 91) rfl) rfl, _, rfl, by decide +kernel⟩, fun h => absurd h (by decide), fun h => absurd h (by decide)⟩
theorem a_okC101 : a_okC (11, 257, 0, 94) := ⟨a_m94, rfl, a_t4 (List.mem_of_getElem? (i := 93) rfl) rfl, a_t1 (List.mem_of_getElem? (i := 6) rfl) rfl, fun _ => ⟨a_t4 (List.mem_of_getElem? (i := 94) rfl) rfl, a_t4 (List.mem_of_getElem? (i := 95) rfl) rfl, _, rfl, by decide +kernel⟩, fun h => absurd h (by decide), fun h => absurd h (by decide)⟩
theorem a_okC102 : a_okC (11, 260, 0, 95) := ⟨a_m95, rfl, a_t4 (List.mem_of_getElem? (i := 97) rfl) rfl, a_t1 (List.mem_of_getElem? (i := 6) rfl) rfl, fun _ => ⟨a_t4 (List.mem_of_getElem? (i := 98) rfl) rfl, a_t4 (List.mem_of_getElem? (i := 99) rfl) rfl, _, rfl, by decide +kernel⟩, fun h => absurd h (by decide), fun h => absurd h (by decide)⟩
theorem a_okC103 : a_okC (13, 85, 0, 96) := ⟨a_m96, rfl, a_t4 (List.mem_of_getElem? (i := 101) rfl) rfl, a_t1 (List.mem_of_getElem? (i := 1) rfl) rfl, fun _ => ⟨a_t4 (List.mem_of_getElem? (i := 102) rfl) rfl, a_t4 (List.mem_of_getElem? (i := 103) rfl) rfl, _, rfl, by decide +kernel⟩, fun h => absurd h (by decide), fun h => absurd h (by decide)⟩
theorem a_okC104 : a_okC (13, 89, 0, 97) := ⟨a_m97, rfl, a_t4 (List.mem_of_getElem? (i := 105) rfl) rfl, a_t1 (List.mem_of_getElem? (i := 1) rfl) rfl, fun _ => ⟨a_t4 (List.mem_of_getElem? (i := 106) rfl) rfl, a_t4 (List.mem_of_getElem? (i := 107) rfl) rfl, _, rfl, by decide +kernel⟩, fun h => absurd h (by decide), fun h => absurd h (by decide)⟩
theorem a_okC105 : a_okC (11, 268, 0, 28) := ⟨a_m28, rfl, a_t4 (List.mem_of_getElem? (i := 110) rfl) rfl, a_t1 (List.mem_of_getElem? (i := 6) rfl) rfl, fun _ => ⟨a_t2 (List.mem_of_getElem? (i := 180) rfl) rfl, a_t2 (List.mem_of_getElem? (i := 181) rfl) rfl, _, rfl, by decide +kernel⟩, fun h => absurd h (by decide), fun h => absurd h (by decide)⟩
theorem a_okC106 : a_okC (11, 271, 0, 98) := ⟨a_m98, rfl, a_t4 (List.mem_of_getElem? (i := 111) rfl) rfl, a_t1 (List.mem_of_getElem? (i := 6) rfl) rfl, fun _ => ⟨a_t4 (List.mem_of_getElem? (i := 112) rfl) rfl, a_t4 (List.mem_of_getElem? (i := 113) rfl) rfl, _, rfl, by decide +kernel⟩, fun h => absurd h (by decide), fun h => absurd h (by decide)⟩
theorem a_okC107 : a_okC (13, 93, 0, 99) := ⟨a_m99, rfl, a_t4 (List.mem_of_getElem? (i := 115) rfl) rfl, a_t1 (List.mem_of_getElem? (i := 1) rfl) rfl, fun _ => ⟨a_t4 (List.mem_of_getElem? (i := 116) rfl) rfl, a_t4 (List.mem_of_getElem? (i := 117) rfl) rfl, _, rfl, by decide +kernel⟩, fun h => absurd h (by decide), fun h => absurd h (by decide)⟩
theorem a_okC108 : a_okC (11, 274, 0, 100) := ⟨a_m100, rfl, a_t4 (List.mem_of_getElem? (i := 119) rfl) rfl, a_t1 (List.mem_of_getElem? (i := 5) rfl) rfl, fun _ => ⟨a_t4 (List.mem_of_getElem? (i := 120) rfl) rfl, a_t4 (List.mem_of_getElem? (i := 121) rfl) rfl, _, rfl, by decide +kernel⟩, fun h => absurd h (by decide), fun h => absurd h (by decide)⟩
theorem a_okC109 : a_okC (5, 90, 0, 101) := ⟨a_m101, rfl, a_t4 (List.mem_of_getElem? (i := 123) rfl) rfl, a_t1 (List.mem_of_getElem? (i := 5) rfl) rfl, fun _ => ⟨a_t4 (List.mem_of_getElem? (i := 124) rfl) rfl, a_t4 (List.mem_of_getElem? (i := 125) rfl) rfl, _, rfl, by decide +kernel⟩, fun h => absurd h (by decide), fun h => absurd h (by decide)⟩
theorem a_okC110 : a_okC (5, 94, 0, 102) := ⟨a_m102, rfl, a_t4 (List.mem_of_getElem? (i := 127) rfl) rfl, a_t1 (List.mem_of_getElem? (i := 5) rfl) rfl, fun _ => ⟨a_t4 (List.mem_of_getElem? (i := 128) rfl) rfl, a_t4 (List.mem_of_getElem? (i := 129) rfl) rfl, _, rfl, by decide +kernel⟩, fun h => absurd h (by decide), fun h => absurd h (by decide)⟩
theorem a_okC111 : a_okC (5, 86, 0, 103) := ⟨a_m103, rfl, a_t4 (List.mem_of_getElem? (i := 131) rfl) rfl, a_t1 (List.mem_of_getElem? (i := 2) rfl) rfl, fun _ => ⟨a_t4 (List.mem_of_getElem? (i := 132) rfl) rfl, a_t4 (List.mem_of_getElem? (i := 133) rfl) rfl, _, rfl, by decide +kernel⟩, fun h => absurd h (by decide), fun h => absurd h (by decide)⟩
theorem a_okC112 : a_okC (5, 98, 0, 104) := ⟨a_m104, rfl, a_t4 (List.mem_of_getElem? (i := 135) rfl) rfl, a_t1 (List.mem_of_getElem? (i := 5) rfl) rfl, fun _ => ⟨a_t4 (List.mem_of_getElem? (i := 136) rfl) rfl, a_t4 (List.mem_of_getElem? (i := 137) rfl) rfl, _, rfl, by decide +kernel⟩, fun h => absurd h (by decide), fun h => absurd h (by decide)⟩
theorem a_okC113 : a_okC (5, 144, 0, 105) := ⟨a_m105, rfl, a_t4 (List.mem_of_getElem? (i := 139) rfl) rfl, a_t1 (List.mem_of_getElem? (i := 11) rfl) rfl, fun _ => ⟨a_t4 (List.mem_of_getElem? (i := 140) rfl) rfl, a_t4 (List.mem_of_getElem? (i := 141) rfl) rfl, _, rfl, by decide +kernel⟩, fun h => absurd h (by decide), fun h => absurd h (by decide)⟩
theorem a_okC114 : a_okC (5, 102, 0, 106) := ⟨a_m106, rfl, a_t4 (List.mem_of_getElem? (i := 143) rfl) rfl, a_t1 (List.mem_of_getElem? (i := 5) rfl) rfl, fun _ => ⟨a_t4 (List.mem_of_getElem? (i := 144) rfl) rfl, a_t4 (List.mem_of_getElem? (i := 145) rfl) rfl, _, rfl, by decide +kernel⟩, fun h => absurd h (by decide), fun h => absurd h (by decide)⟩
theorem a_okC115 : a_okC (5, 48, 0, 32) := ⟨a_m32, rfl, a_t4 (List.mem_of_getElem? (i := 147) rfl) rfl, a_t1 (List.mem_of_getElem? (i := 5) rfl) rfl, fun _ => ⟨a_t2 (List.mem_of_getElem? (i := 195) rfl) rfl, a_t2 (List.mem_of_getElem? (i := 196) rfl) rfl, _, rfl, by decide +kernel⟩, fun h => absurd h (by decide), fun h => absurd h (by decide)⟩
theorem a_okC116 : a_okC (5, 105, 0, 86) := ⟨a_m86, rfl, a_t4 (List.mem_of_getElem? (i := 148) rfl) rfl, a_t1 (List.mem_of_getElem? (i := 3) rfl) rfl, fun _ => ⟨a_t4 (List.mem_of_getElem? (i := 63) rfl) rfl, a_t4 (List.mem_of_getElem? (i := 64) rfl) rfl, _, rfl, by decide +kernel⟩, fun h => absurd h (by decide), fun h => absurd h (by decide)⟩
theorem a_okC117 : a_okC (5, 109, 0, 107) := ⟨a_m107, rfl, a_t4 (List.mem_of_getElem? (i := 149) rfl) rfl, a_t1 (List.mem_of_getElem? (i := 5) rfl) rfl, fun _ => ⟨a_t4 (List.mem_of_getElem? (i := 150) rfl) rfl, a_t4 (List.mem_of_getElem? (i := 151) rfl) rfl, _, rfl, by decide +kernel⟩, fun h => absurd h (by decide), fun h => absurd h (by decide)⟩
theorem a_okC118 : a_okC (5, 153, 0, 108) := ⟨a_m108, rfl, a_t4 (List.mem_of_getElem? (i := 153) rfl) rfl, a_t1 (List.mem_of_getElem? (i := 5) rfl) rfl, fun _ => ⟨a_t4 (List.mem_of_getElem? (i := 154) rfl) rfl, a_t4 (List.mem_of_getElem? (i := 155) rfl) rfl, _, rfl, by decide +kernel⟩, fun h => absurd h (by decide), fun h => absurd h (by decide)⟩
theorem a_okC119 : a_okC (5, 162, 1, 35) := ⟨a_m35, rfl, a_t4 (List.mem_of_getElem? (i := 157) rfl) rfl, a_t1 (List.mem_of_getElem? (i := 12) rfl) rfl, fun h => absurd h (by decide), fun _ => a_t2 (List.mem_of_getElem? (i := 206) rfl) rfl, fun h => absurd h (by decide)⟩
theorem a_okC120 : a_okC (5, 167, 1, 34) := ⟨a_m34, rfl, a_t4 (List.mem_of_getElem? (i := 158) rfl) rfl, a_t1 (List.mem_of_getElem? (i := 12) rfl) rfl, fun h => absurd h (by decide), fun _ => a_t2 (List.mem_of_getElem? (i := 203) rfl) rfl, fun h => absurd h (by decide)⟩
theorem a_okC121 : a_okC (5, 170, 0, 109) := ⟨a_m109, rfl, a_t4 (List.mem_of_getElem? (i := 159) rfl) rfl, a_t1 (List.mem_of_getElem? (i := 11) rfl) rfl, fun _ => ⟨a_t4 (List.mem_of_getElem? (i := 160) rfl) rfl, a_t4 (List.mem_of_getElem? (i := 161) rfl) rfl, _, rfl, by decide +kernel⟩, fun h => absurd h (by decide), fun h => absurd h (by decide)⟩
theorem a_okC122 : a_okC (5, 156, 1, 57) := ⟨a_m57, rfl, a_t4 (List.mem_of_getElem? (i := 163) rfl) rfl, a_t1 (List.mem_of_getElem? (i := 15) rfl) rfl, fun h => absurd h (by decide), fun _ => a_t3 (List.mem_of_getElem? (i := 161) rfl) rfl, fun h => absurd h (by decide)⟩
theorem a_okC123 : a_okC (5, 113, 0, 110) := ⟨a_m110, rfl, a_t4 (List.mem_of_getElem? (i := 164) rfl) rfl, a_t1 (List.mem_of_getElem? (i := 5) rfl) rfl, fun _ => ⟨a_t4 (List.mem_of_getElem? (i := 165) rfl) rfl, a_t4 (List.mem_of_getElem? (i := 166) rfl) rfl, _, rfl, by decide +kernel⟩, fun h => absurd h (by decide), fun h => absurd h (by decide)⟩
theorem a_okC124 : a_okC (5, 117, 0, 111) := ⟨a_m111, rfl, a_t4 (List.mem_of_getElem? (i := 168) rfl) rfl, a_t1 (List.mem_of_getElem? (i := 5) rfl) rfl, fun _ => ⟨a_t4 (List.mem_of_getElem? (i := 169) rfl) rfl, a_t4 (List.mem_of_getElem? (i := 170) rfl) rfl, _, rfl, by decide +kernel⟩, fun h => absurd h (by decide), fun h => absurd h (by decide)⟩
theorem a_okC125 : a_okC (13, 97, 0, 112) := ⟨a_m112, rfl, a_t4 (List.mem_of_getElem? (i := 172) rfl) rfl, a_t1 (List.mem_of_getElem? (i := 1) rfl) rfl, fun _ => ⟨a_t4 (List.mem_of_getElem? (i := 173) rfl) rfl, a_t4 (List.mem_of_getElem? (i := 174) rfl) rfl, _, rfl, by decide +kernel⟩, fun h => absurd h (by decide), fun h => absurd h (by decide)⟩
theorem a_okC126 : a_okC (11, 278, 0, 55) := ⟨a_m55, rfl, a_t4 (List.mem_of_getElem? (i := 176) rfl) rfl, a_t1 (List.mem_of_getElem? (i := 13) rfl) rfl, fun _ => ⟨a_t3 (List.mem_of_getElem? (i := 153) rfl) rfl, a_t3 (List.mem_of_getElem? (i := 154) rfl) rfl, _, rfl, by decide +kernel⟩, fun h => absurd h (by decide), fun h => absurd h (by decide)⟩
theorem a_okC127 : a_okC (11, 281, 0, 113) := ⟨a_m113, rfl, a_t4 (List.mem_of_getElem? (i := 177) rfl) rfl, a_t1 (List.mem_of_getElem? (i := 5) rfl) rfl, fun _ => ⟨a_t4 (List.mem_of_getElem? (i := 178) rfl) rfl, a_t4 (List.mem_of_getElem? (i := 179) rfl) rfl, _, rfl, by decide +kernel⟩, fun h => absurd h (by decide), fun h => absurd h (by decide)⟩
theorem a_okC128 : a_okC (5, 190, 0, 114) := ⟨a_m114, rfl, a_t4 (List.mem_of_getElem? (i := 181) rfl) rfl, a_t1 (List.mem_of_getElem? (i := 5) rfl) rfl, fun _ => ⟨a_t4 (List.mem_of_getElem? (i := 182) rfl) rfl, a_t4 (List.mem_of_getElem? (i := 183) rfl) rfl, _, rfl, by decide +kernel⟩, fun h => absurd h (by decide), fun h => absurd h (by decide)⟩
theorem a_okC129 : a_okC (5, 193, 0, 115) := ⟨a_m115, rfl, a_t4 (List.mem_of_getElem? (i := 185) rfl) rfl, a_t1 (List.mem_of_getElem? (i := 5) rfl) rfl, fun _ => ⟨a_t4 (List.mem_of_getElem? (i := 186) rfl) rfl, a_t4 (List.mem_of_getElem? (i := 187) rfl) rfl, _, rfl, by decide +kernel⟩, fun h => absurd h (by decide), fun h => absurd h (by decide)⟩
theorem a_okC130 : a_okC (13, 101, 0, 116) := ⟨a_m116, rfl, a_t4 (List.mem_of_getElem? (i := 189) rfl) rfl, a_t1 (List.mem_of_getElem? (i := 1) rfl) rfl, fun _ => ⟨a_t4 (List.mem_of_getElem? (i := 190) rfl) rfl, a_t4 (List.mem_of_getElem? (i := 191) rfl) rfl, _, rfl, by decide +kernel⟩, fun h => absurd h (by decide), fun h => absurd h (by decide)⟩
theorem a_okC131 : a_okC (11, 285, 0, 117) := ⟨a_m117, rfl, a_t4 (List.mem_of_getElem? (i := 193) rfl) rfl, a_t1 (List.mem_of_getElem? (i := 5) rfl) rfl, fun _ => ⟨a_t4 (List.mem_of_getElem? (i := 194) rfl) rfl, a_t4 (List.mem_of_getElem? (i := 195) rfl) rfl, _, rfl, by decide +kernel⟩, fun h => absurd h (by decide), fun h => absurd h (by decide)⟩
theorem a_okC132 : a_okC (13, 105, 0, 118) := ⟨a_m118, rfl, a_t4 (List.mem_of_getElem? (i := 197) rfl) rfl, a_t1 (List.mem_of_getElem? (i := 1) rfl) rfl, fun _ => ⟨a_t4 (List.mem_of_getElem? (i := 198) rfl) rfl, a_t4 (List.mem_of_getElem? (i := 199) rfl) rfl, _, rfl, by decide +kernel⟩, fun h => absurd h (by decide), fun h => absurd h (by decide)⟩
theorem a_okC133 : a_okC (11, 289, 0, 119) := ⟨a_m119, rfl, a_t4 (List.mem_of_getElem? (i := 201) rfl) rfl, a_t1 (List.mem_of_getElem? (i := 7) rfl) rfl, fun _ => ⟨a_t4 (List.mem_of_getElem? (i := 202) rfl) rfl, a_t4 (List.mem_of_getElem? (i := 203) rfl) rfl, _, rfl, by decide +kernel⟩, fun h => absurd h (by decide), fun h => absurd h (by decide)⟩
theorem a_okC134 : a_okC (7, 54, 0, 32) := ⟨a_m32, rfl, a_t4 (List.mem_of_getElem? (i := 205) rfl) rfl, a_t1 (List.mem_of_getElem? (i := 5) rfl) rfl, fun _ => ⟨a_t2 (List.mem_of_getElem? (i := 195) rfl) rfl, a_t2 (List.mem_of_getElem? (i := 196) rfl) rfl, _, rfl, by decide +kernel⟩, fun h => absurd h (by decide), fun h => absurd h (by decide)⟩
theorem a_okC135 : a_okC (7, 58, 0, 55) := ⟨a_m55, rfl, a_t4 (List.mem_of_getElem? (i := 206) rfl) rfl, a_t1 (List.mem_of_getElem? (i := 13) rfl) rfl, fun _ => ⟨a_t3 (List.mem_of_getElem? (i := 153) rfl) rfl, a_t3 (List.mem_of_getElem? (i := 154) rfl) rfl, _, rfl, by decide +kernel⟩, fun h => absurd h (by decide), fun h => absurd h (by decide)⟩
theorem a_okC136 : a_okC (7, 66, 0, 120) := ⟨a_m120, rfl, a_t4 (List.mem_of_getElem? (i := 207) rfl) rfl, a_t1 (List.mem_of_getElem? (i := 7) rfl) rfl, fun _ => ⟨a_t4 (List.mem_of_getElem? (i := 208) rfl) rfl, a_t4 (List.mem_of_getElem? (i := 209) rfl) rfl, _, rfl, by decide +kernel⟩, fun h => absurd h (by decide), fun h => absurd h (by decide)⟩
theorem a_okC137 : a_okC (7, 45, 0, 121) := ⟨a_m121, rfl, a_t4 (List.mem_of_getElem? (i := 211) rfl) rfl, a_t1 (List.mem_of_getElem? (i := 13) rfl) rfl, fun _ => ⟨a_t4 (List.mem_of_getElem? (i := 212) rfl) rfl, a_t4 (List.mem_of_getElem? (i := 213) rfl) rfl, _, rfl, by decide +kernel⟩, fun h => absurd h (by decide), fun h => absurd h (by decide)⟩
theorem a_okC138 : a_okC (0, 64, 0, 122) := ⟨a_m122, rfl, a_t4 (List.mem_of_getElem? (i := 215) rfl) rfl, a_t1 (List.mem_of_getElem? (i := 13) rfl) rfl, fun _ => ⟨a_t4 (List.mem_of_getElem? (i := 216) rfl) rfl, a_t4 (List.mem_of_getElem? (i := 217) rfl) rfl, _, rfl, by decide +kernel⟩, fun h => absurd h (by decide), fun h => absurd h (by decide)⟩
theorem a_okC139 : a_okC (7, 70, 0, 123) := ⟨a_m123, rfl, a_t4 (List.mem_of_getElem? (i := 219) rfl) rfl, a_t1 (List.mem_of_getElem? (i := 7) rfl) rfl, fun _ => ⟨a_t4 (List.mem_of_getElem? (i := 220) rfl) rfl, a_t4 (List.mem_of_getElem? (i := 221) rfl) rfl, _, rfl, by decide +kernel⟩, fun h => absurd h (by decide), fun h => absurd h (by decide)⟩
theorem a_okC140 : a_okC (7, 103, 0, 49) := ⟨a_m49, rfl, a_t4 (List.mem_of_getElem? (i := 223) rfl) rfl, a_t1 (List.mem_of_getElem? (i := 13) rfl) rfl, fun _ => ⟨a_t3 (List.mem_of_getElem? (i := 127) rfl) rfl, a_t3 (List.mem_of_getElem? (i := 128) rfl) rfl, _, rfl, by decide +kernel⟩, fun h => absurd h (by decide), fun h => absurd h (by decide)⟩
theorem a_okC141 : a_okC (7, 107, 1, 34) := ⟨a_m34, rfl, a_t4 (List.mem_of_getElem? (i := 224) rfl) rfl, a_t1 (List.mem_of_getElem? (i := 12) rfl) rfl, fun h => absurd h (by decide), fun _ => a_t2 (List.mem_of_getElem? (i := 203) rfl) rfl, fun h => absurd h (by decide)⟩
theorem a_okC142 : a_okC (7, 74, 0, 124) := ⟨a_m124, rfl, a_t4 (List.mem_of_getElem? (i := 225) rfl) rfl, a_t1 (List.mem_of_getElem? (i := 7) rfl) rfl, fun _ => ⟨a_t4 (List.mem_of_getElem? (i := 226) rfl) rfl, a_t4 (List.mem_of_getElem? (i := 227) rfl) rfl, _, rfl, by decide +kernel⟩, fun h => absurd h (by decide), fun h => absurd h (by decide)⟩
theorem a_okC143 : a_okC (7, 86, 0, 100) := ⟨a_m100, rfl, a_t4 (List.mem_of_getElem? (i := 229) rfl) rfl, a_t1 (List.mem_of_getElem? (i := 5) rfl) rfl, fun _ => ⟨a_t4 (List.mem_of_getElem? (i := 120) rfl) rfl, a_t4 (List.mem_of_getElem? (i := 121) rfl) rfl, _, rfl, by decide +kernel⟩, fun h => absurd h (by decide), fun h => absurd h (by decide)⟩
theorem a_okC144 : a_okC (7, 90, 0, 113) := ⟨a_m113, rfl, a_t4 (List.mem_of_getElem? (i := 230) rfl) rfl, a_t1 (List.mem_of_getElem? (i := 5) rfl) rfl, fun _ => ⟨a_t4 (List.mem_of_getElem? (i := 178) rfl) rfl, a_t4 (List.mem_of_getElem? (i := 179) rfl) rfl, _, rfl, by decide +kernel⟩, fun h => absurd h (by decide), fun h => absurd h (by decide)⟩
theorem a_okC145 : a_okC (13, 109, 0, 125) := ⟨a_m125, rfl, a_t4 (List.mem_of_getElem? (i := 231) rfl) rfl, a_t1 (List.mem_of_getElem? (i := 1) rfl) rfl, fun _ => ⟨a_t4 (List.mem_of_getElem? (i := 232) rfl) rfl, a_t4 (List.mem_of_getElem? (i := 233) rfl) rfl, _, rfl, by decide +kernel⟩, fun h => absurd h (by decide), fun h => absurd h (by decide)⟩
theorem a_okC146 : a_okC (11, 295, 0, 126) := ⟨a_m126, rfl, a_t4 (List.mem_of_getElem? (i := 235) rfl) rfl, a_t1 (List.mem_of_getElem? (i := 7) rfl) rfl, fun _ => ⟨a_t4 (List.mem_of_getElem? (i := 236) rfl) rfl, a_t4 (List.mem_of_getElem? (i := 237) rfl) rfl, _, rfl, by decide +kernel⟩, fun h => absurd h (by decide), fun h => absurd h (by decide)⟩
theorem a_okC147 : a_okC (13, 113, 0, 127) := ⟨a_m127, rfl, a_t4 (List.mem_of_getElem? (i := 239) rfl) rfl, a_t1 (List.mem_of_getElem? (i := 1) rfl) rfl, fun _ => ⟨a_t5 (List.mem_of_getElem? (i := 0) rfl) rfl, a_t5 (List.mem_of_getElem? (i := 1) rfl) rfl, _, rfl, by decide +kernel⟩, fun h => absurd h (by decide), fun h => absurd h (by decide)⟩
theorem a_okC148 : a_okC (11, 298, 0, 123) := ⟨a_m123, rfl, a_t5 (List.mem_of_getElem? (i := 3) rfl) rfl, a_t1 (List.mem_of_getElem? (i := 7) rfl) rfl, fun _ => ⟨a_t4 (List.mem_of_getElem? (i := 220) rfl) rfl, a_t4 (List.mem_of_getElem? (i := 221) rfl) rfl, _, rfl, by decide +kernel⟩, fun h => absurd h (by decide), fun h => absurd h (by decide)⟩
theorem a_okC149 : a_okC (13, 118, 0, 128) := ⟨a_m128, rfl, a_t5 (List.mem_of_getElem? (i := 4) rfl) rfl, a_t1 (List.mem_of_getElem? (i := 1) rfl) rfl, fun _ => ⟨a_t5 (List.mem_of_getElem? (i := 5) rfl) rfl, a_t5 (List.mem_of_getElem? (i := 6) rfl) rfl, _, rfl, by decide +kernel⟩, fun h => absurd h (by decide), fun h => absurd h (by decide)⟩
theorem a_okC150 : a_okC (11, 302, 0, 129) := ⟨a_m129, rfl, a_t5 (List.mem_of_getElem? (i := 8) rfl) rfl, a_t1 (List.mem_of_getElem? (i := 5) rfl) rfl, fun _ => ⟨a_t5 (List.mem_of_getElem? (i := 9) rfl) rfl, a_t5 (List.mem_of_getElem? (i := 10) rfl) rfl, _, rfl, by decide +kernel⟩, fun h => absurd h (by decide), fun h => absurd h (by decide)⟩
theorem a_okC151 : a_okC (11, 305, 1, 130) := ⟨a_m130, rfl, a_t5 (List.mem_of_getElem? (i := 13) rfl) rfl, a_t1 (List.mem_of_getElem? (i := 1) rfl) rfl, fun h => absurd h (by decide), fun _ => a_t5 (List.mem_of_getElem? (i := 14) rfl) rfl, fun h => absurd h (by decide)⟩
theorem a_okC152 : a_okC (11, 308, 1, 57) := ⟨a_m57, rfl, a_t5 (List.mem_of_getElem? (i := 16) rfl) rfl, a_t1 (List.mem_of_getElem? (i := 15) rfl) rfl, fun h => absurd h (by decide), fun _ => a_t3 (List.mem_of_getElem? (i := 161) rfl) rfl, fun h => absurd h (by decide)⟩
theorem a_okC153 : a_okC (11, 313, 0, 131) := ⟨a_m131, rfl, a_t5 (List.mem_of_getElem? (i := 17) rfl) rfl, a_t1 (List.mem_of_getElem? (i := 5) rfl) rfl, fun _ => ⟨a_t5 (List.mem_of_getElem? (i := 18) rfl) rfl, a_t5 (List.mem_of_getElem? (i := 19) rfl) rfl, _, rfl, by decide +kernel⟩, fun h => absurd h (by decide), fun h => absurd h (by decide)⟩
theorem a_okC154 : a_okC (11, 316, 0, 132) := ⟨a_m132, rfl, a_t5 (List.mem_of_getElem? (i := 22) rfl) rfl, a_t1 (List.mem_of_getElem? (i := 8) rfl) rfl, fun _ => ⟨a_t5 (List.mem_of_getElem? (i := 23) rfl) rfl, a_t5 (List.mem_of_getElem? (i := 24) rfl) rfl, _, rfl, by decide +kernel⟩, fun h => absurd h (by decide), fun h => absurd h (by decide)⟩
theorem a_okC155 : a_okC (3, 49, 0, 32) := ⟨a_m32, rfl, a_t5 (List.mem_of_getElem? (i := 26) rfl) rfl, a_t1 (List.mem_of_getElem? (i := 5) rfl) rfl, fun _ => ⟨a_t2 (List.mem_of_getElem? (i := 195) rfl) rfl, a_t2 (List.mem_of_getElem? (i := 196) rfl) rfl, _, rfl, by decide +kernel⟩, fun h => absurd h (by decide), fun h => absurd h (by decide)⟩
theorem a_okC156 : a_okC (3, 57, 0, 133) := ⟨a_m133, rfl, a_t5 (List.mem_of_getElem? (i := 28) rfl) rfl, a_t1 (List.mem_of_getElem? (i := 8) rfl) rfl, fun _ => ⟨a_t5 (List.mem_of_getElem? (i := 29) rfl) rfl, a_t5 (List.mem_of_getElem? (i := 30) rfl) rfl, _, rfl, by decide +kernel⟩, fun h => absurd h (by decide), fun h => absurd h (by decide)⟩
theorem a_okC157 : a_okC (3, 90, 0, 110) := ⟨a_m110, rfl, a_t5 (List.mem_of_getElem? (i := 32) rfl) rfl, a_t1 (List.mem_of_getElem? (i := 5) rfl) rfl, fun _ => ⟨a_t4 (List.mem_of_getElem? (i := 165) rfl) rfl, a_t4 (List.mem_of_getElem? (i := 166) rfl) rfl, _, rfl, by decide +kernel⟩, fun h => absurd h (by decide), fun h => absurd h (by decide)⟩
theorem a_okC158 : a_okC (3, 94, 0, 134) := ⟨a_m134, rfl, a_t5 (List.mem_of_getElem? (i := 33) rfl) rfl, a_t1 (List.mem_of_getElem? (i := 8) rfl) rfl, fun _ => ⟨a_t5 (List.mem_of_getElem? (i := 34) rfl) rfl, a_t5 (List.mem_of_getElem? (i := 35) rfl) rfl, _, rfl, by decide +kernel⟩, fun h => absurd h (by decide), fun h => absurd h (by decide)⟩
theorem a_okC159 : a_okC (3, 100, 0, 135) := ⟨a_m135, rfl, a_t5 (List.mem_of_getElem? (i := 37) rfl) rfl, a_t1 (List.mem_of_getElem? (i := 5) rfl) rfl, fun _ => ⟨a_t5 (List.mem_of_getElem? (i := 38) rfl) rfl, a_t5 (List.mem_of_getElem? (i := 39) rfl) rfl, _, rfl, by decide +kernel⟩, fun h => absurd h (by decide), fun h => absurd h (by decide)⟩
theorem a_okC160 : a_okC (3, 104, 0, 114) := ⟨a_m114, rfl, a_t5 (List.mem_of_getElem? (i := 41) rfl) rfl, a_t1 (List.mem_of_getElem? (i := 5) rfl) rfl, fun _ => ⟨a_t4 (List.mem_of_getElem? (i := 182) rfl) rfl, a_t4 (List.mem_of_getElem? (i := 183) rfl) rfl, _, rfl, by decide +kernel⟩, fun h => absurd h (by decide), fun h => absurd h (by decide)⟩
theorem a_okC161 : a_okC (3, 108, 0, 136) := ⟨a_m136, rfl, a_t5 (List.mem_of_getElem? (i := 42) rfl) rfl, a_t1 (List.mem_of_getElem? (i := 5) rfl) rfl, fun _ => ⟨a_t5 (List.mem_of_getElem? (i := 43) rfl) rfl, a_t5 (List.mem_of_getElem? (i := 44) rfl) rfl, _, rfl, by decide +kernel⟩, fun h => absurd h (by decide), fun h => absurd h (by decide)⟩
theorem a_okC162 : a_okC (3, 61, 0, 137) := ⟨a_m137, rfl, a_t5 (List.mem_of_getElem? (i := 46) rfl) rfl, a_t1 (List.mem_of_getElem? (i := 8) rfl) rfl, fun _ => ⟨a_t5 (List.mem_of_getElem? (i := 47) rfl) rfl, a_t5 (List.mem_of_getElem? (i := 48) rfl) rfl, _, rfl, by decide +kernel⟩, fun h => absurd h (by decide), fun h => absurd h (by decide)⟩
theorem a_okC163 : a_okC (3, 75, 1, 35) := ⟨a_m35, rfl, a_t5 (List.mem_of_getElem? (i := 50) rfl) rfl, a_t1 (List.mem_of_getElem? (i := 12) rfl) rfl, fun h => absurd h (by decide), fun _ => a_t2 (List.mem_of_getElem? (i := 206) rfl) rfl, fun h => absurd h (by decide)⟩
theorem a_okC164 : a_okC (3, 68, 0, 138) := ⟨a_m138, rfl, a_t5 (List.mem_of_getElem? (i := 51) rfl) rfl, a_t1 (List.mem_of_getElem? (i := 8) rfl) rfl, fun _ => ⟨a_t5 (List.mem_of_getElem? (i := 53) rfl) rfl, a_mem_p (List.mem_of_getElem? (i := 3) rfl) rfl, _, rfl, by decide +kernel⟩, fun h => absurd h (by decide), fun h => absurd h (by decide)⟩
theorem a_okC165 : a_okC (3, 118, 0, 115) := ⟨a_m115, rfl, a_t5 (List.mem_of_getElem? (i := 56) rfl) rfl, a_t1 (List.mem_of_getElem? (i := 5) rfl) rfl, fun _ => ⟨a_t4 (List.mem_of_getElem? (i := 186) rfl) rfl, a_t4 (List.mem_of_getElem? (i := 187) rfl) rfl, _, rfl, by decide +kernel⟩, fun h => absurd h (by decide), fun h => absurd h (by decide)⟩
theorem a_okC166 : a_okC (3, 122, 0, 51) := ⟨a_m51, rfl, a_t5 (List.mem_of_getElem? (i := 57) rfl) rfl, a_t1 (List.mem_of_getElem? (i := 5) rfl) rfl, fun _ => ⟨a_t3 (List.mem_of_getElem? (i := 136) rfl) rfl, a_t3 (List.mem_of_getElem? (i := 137) rfl) rfl, _, rfl, by decide +kernel⟩, fun h => absurd h (by decide), fun h => absurd h (by decide)⟩
theorem a_okC167 : a_okC (11, 322, 0, 139) := ⟨a_m139, rfl, a_t5 (List.mem_of_getElem? (i := 58) rfl) rfl, a_t1 (List.mem_of_getElem? (i := 8) rfl) rfl, fun _ => ⟨a_t5 (List.mem_of_getElem? (i := 59) rfl) rfl, a_t5 (List.mem_of_getElem? (i := 60) rfl) rfl, _, rfl, by decide +kernel⟩, fun h => absurd h (by decide), fun h => absurd h (by decide)⟩
theorem a_okC168 : a_okC (13, 122, 0, 140) := ⟨a_m140, rfl, a_t5 (List.mem_of_getElem? (i := 62) rfl) rfl, a_t1 (List.mem_of_getElem? (i := 1) rfl) rfl, fun _ => ⟨a_t5 (List.mem_of_getElem? (i := 63) rfl) rfl, a_t5 (List.mem_of_getElem? (i := 64) rfl) rfl, _, rfl, by decide +kernel⟩, fun h => absurd h (by decide), fun h => absurd h (by decide)⟩
theorem a_okC169 : a_okC (13, 126, 0, 141) := ⟨a_m141, rfl, a_t5 (List.mem_of_getElem? (i := 66) rfl) rfl, a_t1 (List.mem_of_getElem? (i := 1) rfl) rfl, fun _ => ⟨a_t5 (List.mem_of_getElem? (i := 67) rfl) rfl, a_t5 (List.mem_of_getElem? (i := 68) rfl) rfl, _, rfl, by decide +kernel⟩, fun h => absurd h (by decide), fun h => absurd h (by decide)⟩
theorem a_okC170 : a_okC (11, 333, 0, 142) := ⟨a_m142, rfl, a_t5 (List.mem_of_getElem? (i := 70) rfl) rfl, a_t1 (List.mem_of_getElem? (i := 13) rfl) rfl, fun _ => ⟨a_t5 (List.mem_of_getElem? (i := 71) rfl) rfl, a_t5 (List.mem_of_getElem? (i := 72) rfl) rfl, _, rfl, by decide +kernel⟩, fun h => absurd h (by decide), fun h => absurd h (by decide)⟩
theorem a_okC171 : a_okC (0, 54, 2, 37) := ⟨a_m37, rfl, a_t5 (List.mem_of_getElem? (i := 75) rfl) rfl, a_t1 (List.mem_of_getElem? (i := 13) rfl) rfl, fun h => absurd h (by decide), fun h => absurd h (by decide), fun _ => ⟨a_t2 (List.mem_of_getElem? (i := 215) rfl) rfl, rfl⟩⟩
theorem a_okC172 : a_okC (0, 57, 0, 41) := ⟨a_m41, rfl, a_t5 (List.mem_of_getElem? (i := 76) rfl) rfl, a_t1 (List.mem_of_getElem? (i := 13) rfl) rfl, fun _ => ⟨a_t3 (List.mem_of_getElem? (i := 92) rfl) rfl, a_t3 (List.mem_of_getElem? (i := 93) rfl) rfl, _, rfl, by decide +kernel⟩, fun h => absurd h (by decide), fun h => absurd h (by decide)⟩
theorem a_okC173 : a_okC (0, 60, 0, 42) := ⟨a_m42, rfl, a_t5 (List.mem_of_getElem? (i := 77) rfl) rfl, a_t1 (List.mem_of_getElem? (i := 13) rfl) rfl, fun _ => ⟨a_t3 (List.mem_of_getElem? (i := 96) rfl) rfl, a_t3 (List.mem_of_getElem? (i := 97) rfl) rfl, _, rfl, by decide +kernel⟩, fun h => absurd h (by decide), fun h => absurd h (by decide)⟩
theorem a_okC174 : a_okC (13, 130, 0, 143) := ⟨a_m143, rfl, a_t5 (List.mem_of_getElem? (i := 78) rfl) rfl, a_t1 (List.mem_of_getElem? (i := 1) rfl) rfl, fun _ => ⟨a_t5 (List.mem_of_getElem? (i := 79) rfl) rfl, a_t5 (List.mem_of_getElem? (i := 80) rfl) rfl, _, rfl, by decide +kernel⟩, fun h => absurd h (by decide), fun h => absurd h (by decide)⟩
theorem a_okC175 : a_okC (11, 336, 0, 144) := ⟨a_m144, rfl, a_t5 (List.mem_of_getElem? (i := 82) rfl) rfl, a_t1 (List.mem_of_getElem? (i := 7) rfl) rfl, fun _ => ⟨a_t5 (List.mem_of_getElem? (i := 83) rfl) rfl, a_t5 (List.mem_of_getElem? (i := 84) rfl) rfl, _, rfl, by decide +kernel⟩, fun h => absurd h (by decide), fun h => absurd h (by decide)⟩
theorem a_okC176 : a_okC (7, 116, 0, 145) := ⟨a_m145, rfl, a_t5 (List.mem_of_getElem? (i := 86) rfl) rfl, a_t1 (List.mem_of_getElem? (i := 5) rfl) rfl, fun _ => ⟨a_t5 (List.mem_of_getElem? (i := 87) rfl) rfl, a_t5 (List.mem_of_getElem? (i := 88) rfl) rfl, _, rfl, by decide +kernel⟩, fun h => absurd h (by decide), fun h => absurd h (by decide)⟩
theorem a_okC177 : a_okC (5, 215, 0, 117) := ⟨a_m117, rfl, a_t5 (List.mem_of_getElem? (i := 90) rfl) rfl, a_t1 (List.mem_of_getElem? (i := 5) rfl) rfl, fun _ => ⟨a_t4 (List.mem_of_getElem? (i := 194) rfl) rfl, a_t4 (List.mem_of_getElem? (i := 195) rfl) rfl, _, rfl, by decide +kernel⟩, fun h => absurd h (by decide), fun h => absurd h (by decide)⟩
theorem a_okC178 : a_okC (5, 219, 0, 100) := ⟨a_m100, rfl, a_t5 (List.mem_of_getElem? (i := 91) rfl) rfl, a_t1 (List.mem_of_getElem? (i := 5) rfl) rfl, fun _ => ⟨a_t4 (List.mem_of_getElem? (i := 120) rfl) rfl, a_t4 (List.mem_of_getElem? (i := 121) rfl) rfl, _, rfl, by decide +kernel⟩, fun h => absurd h (by decide), fun h => absurd h (by decide)⟩
theorem a_okC179 : a_okC (5, 222, 0, 45) := ⟨a_m45, rfl, a_t5 (List.mem_of_getElem? (i := 92) rfl) rfl, a_t1 (List.mem_of_getElem? (i := 5) rfl) rfl, fun _ => ⟨a_t3 (List.mem_of_getElem? (i := 108) rfl) rfl, a_t3 (List.mem_of_getElem? (i := 109) rfl) rfl, _, rfl, by decide +kernel⟩, fun h => absurd h (by decide), fun h => absurd h (by decide)⟩
theorem a_okC180 : a_okC (13, 135, 0, 146) := ⟨a_m146, rfl, a_t5 (List.mem_of_getElem? (i := 93) rfl) rfl, a_t1 (List.mem_of_getElem? (i := 1) rfl) rfl, fun _ => ⟨a_t5 (List.mem_of_getElem? (i := 94) rfl) rfl, a_t5 (List.mem_of_getElem? (i := 95) rfl) rfl, _, rfl, by decide +kernel⟩, fun h => absurd h (by decide), fun h => absurd h (by decide)⟩
theorem a_okC181 : a_okC (11, 339, 0, 145) := ⟨a_m145, rfl, a_t5 (List.mem_of_getElem? (i := 97) rfl) rfl, a_t1 (List.mem_of_getElem? (i := 5) rfl) rfl, fun _ => ⟨a_t5 (List.mem_of_getElem? (i := 87) rfl) rfl, a_t5 (List.mem_of_getElem? (i := 88) rfl) rfl, _, rfl, by decide +kernel⟩, fun h => absurd h (by decide), fun h => absurd h (by decide)⟩
theorem a_okC182 : a_okC (13, 139, 0, 147) := ⟨a_m147, rfl, a_t5 (List.mem_of_getElem? (i := 98) rfl) rfl, a_t1 (List.mem_of_getElem? (i := 1) rfl) rfl, fun _ => ⟨a_t5 (List.mem_of_getElem? (i := 99) rfl) rfl, a_t5 (List.mem_of_getElem? (i := 100) rfl) rfl, _, rfl, by decide +kernel⟩, fun h => absurd h (by decide), fun h => absurd h (by decide)⟩
theorem a_okC183 : a_okC (11, 342, 0, 148) := ⟨a_m148, rfl, a_t5 (List.mem_of_getElem? (i := 102) rfl) rfl, a_t1 (List.mem_of_getElem? (i := 9) rfl) rfl, fun _ => ⟨a_t5 (List.mem_of_getElem? (i := 103) rfl) rfl, a_t5 (List.mem_of_getElem? (i := 104) rfl) rfl, _, rfl, by decide +kernel⟩, fun h => absurd h (by decide), fun h => absurd h (by decide)⟩
theorem a_okC184 : a_okC (13, 144, 0, 149) := ⟨a_m149, rfl, a_t5 (List.mem_of_getElem? (i := 106) rfl) rfl, a_t1 (List.mem_of_getElem? (i := 1) rfl) rfl, fun _ => ⟨a_t5 (List.mem_of_getElem? (i := 107) rfl) rfl, a_t5 (List.mem_of_getElem? (i := 108) rfl) rfl, _, rfl, by decide +kernel⟩, fun h => absurd h (by decide), fun h => absurd h (by decide)⟩
theorem a_okC185 : a_okC (11, 345, 0, 150) := ⟨a_m150, rfl, a_t5 (List.mem_of_getElem? (i := 110) rfl) rfl, a_t1 (List.mem_of_getElem? (i := 9) rfl) rfl, fun _ => ⟨a_t5 (List.mem_of_getElem? (i := 111) rfl) rfl, a_t5 (List.mem_of_getElem? (i := 112) rfl) rfl, _, rfl, by decide +kernel⟩, fun h => absurd h (by decide), fun h => absurd h (by decide)⟩
theorem a_okC186 : a_okC (4, 49, 0, 151) := ⟨a_m151, rfl, a_t5 (List.mem_of_getElem? (i := 114) rfl) rfl, a_t1 (List.mem_of_getElem? (i := 9) rfl) rfl, fun _ => ⟨a_t5 (List.mem_of_getElem? (i := 115) rfl) rfl, a_t5 (List.mem_of_getElem? (i := 116) rfl) rfl, _, rfl, by decide +kernel⟩, fun h => absurd h (by decide), fun h => absurd h (by decide)⟩
theorem a_okC187 : a_okC (4, 53, 0, 32) := ⟨a_m32, rfl, a_t5 (List.mem_of_getElem? (i := 118) rfl) rfl, a_t1 (List.mem_of_getElem? (i := 5) rfl) rfl, fun _ => ⟨a_t2 (List.mem_of_getElem? (i := 195) rfl) rfl, a_t2 (List.mem_of_getElem? (i := 196) rfl) rfl, _, rfl, by decide +kernel⟩, fun h => absurd h (by decide), fun h => absurd h (by decide)⟩
theorem a_okC188 : a_okC (4, 61, 0, 117) := ⟨a_m117, rfl, a_t5 (List.mem_of_getElem? (i := 119) rfl) rfl, a_t1 (List.mem_of_getElem? (i := 5) rfl) rfl, fun _ => ⟨a_t4 (List.mem_of_getElem? (i := 194) rfl) rfl, a_t4 (List.mem_of_getElem? (i := 195) rfl) rfl, _, rfl, by decide +kernel⟩, fun h => absurd h (by decide), fun h => absurd h (by decide)⟩
theorem a_okC189 : a_okC (4, 76, 0, 135) := ⟨a_m135, rfl, a_t5 (List.mem_of_getElem? (i := 121) rfl) rfl, a_t1 (List.mem_of_getElem? (i := 5) rfl) rfl, fun _ => ⟨a_t5 (List.mem_of_getElem? (i := 38) rfl) rfl, a_t5 (List.mem_of_getElem? (i := 39) rfl) rfl, _, rfl, by decide +kernel⟩, fun h => absurd h (by decide), fun h => absurd h (by decide)⟩
theorem a_okC190 : a_okC (4, 57, 0, 152) := ⟨a_m152, rfl, a_t5 (List.mem_of_getElem? (i := 122) rfl) rfl, a_t1 (List.mem_of_getElem? (i := 9) rfl) rfl, fun _ => ⟨a_t5 (List.mem_of_getElem? (i := 124) rfl) rfl, a_mem_p (List.mem_of_getElem? (i := 4) rfl) rfl, _, rfl, by decide +kernel⟩, fun h => absurd h (by decide), fun h => absurd h (by decide)⟩
theorem a_okC191 : a_okC (4, 80, 0, 153) := ⟨a_m153, rfl, a_t5 (List.mem_of_getElem? (i := 126) rfl) rfl, a_t1 (List.mem_of_getElem? (i := 9) rfl) rfl, fun _ => ⟨a_t5 (List.mem_of_getElem? (i := 127) rfl) rfl, a_t5 (List.mem_of_getElem? (i := 128) rfl) rfl, _, rfl, by decide +kernel⟩, fun h => absurd h (by decide), fun h => absurd h (by decide)⟩
theorem a_okC192 : a_okC (4, 90, 0, 154) := ⟨a_m154, rfl, a_t5 (List.mem_of_getElem? (i := 130) rfl) rfl, a_t1 (List.mem_of_getElem? (i := 9) rfl) rfl, fun _ => ⟨a_t5 (List.mem_of_getElem? (i := 131) rfl) rfl, a_t5 (List.mem_of_getElem? (i := 132) rfl) rfl, _, rfl, by decide +kernel⟩, fun h => absurd h (by decide), fun h => absurd h (by decide)⟩
theorem a_okC193 : a_okC (4, 117, 0, 46) := ⟨a_m46, rfl, a_t5 (List.mem_of_getElem? (i := 134) rfl) rfl, a_t1 (List.mem_of_getElem? (i := 5) rfl) rfl, fun _ => ⟨a_t3 (List.mem_of_getElem? (i := 112) rfl) rfl, a_t3 (List.mem_of_getElem? (i := 113) rfl) rfl, _, rfl, by decide +kernel⟩, fun h => absurd h (by decide), fun h => absurd h (by decide)⟩
theorem a_okC194 : a_okC (4, 93, 0, 51) := ⟨a_m51, rfl, a_t5 (List.mem_of_getElem? (i := 135) rfl) rfl, a_t1 (List.mem_of_getElem? (i := 5) rfl) rfl, fun _ => ⟨a_t3 (List.mem_of_getElem? (i := 136) rfl) rfl, a_t3 (List.mem_of_getElem? (i := 137) rfl) rfl, _, rfl, by decide +kernel⟩, fun h => absurd h (by decide), fun h => absurd h (by decide)⟩
theorem a_okC195 : a_okC (4, 97, 0, 114) := ⟨a_m114, rfl, a_t5 (List.mem_of_getElem? (i := 136) rfl) rfl, a_t1 (List.mem_of_getElem? (i := 5) rfl) rfl, fun _ => ⟨a_t4 (List.mem_of_getElem? (i := 182) rfl) rfl, a_t4 (List.mem_of_getElem? (i := 183) rfl) rfl, _, rfl, by decide +kernel⟩, fun h => absurd h (by decide), fun h => absurd h (by decide)⟩
theorem a_okC196 : a_okC (4, 101, 0, 110) := ⟨a_m110, rfl, a_t5 (List.mem_of_getElem? (i := 137) rfl) rfl, a_t1 (List.mem_of_getElem? (i := 5) rfl) rfl, fun _ => ⟨a_t4 (List.mem_of_getElem? (i := 165) rfl) rfl, a_t4 (List.mem_of_getElem? (i := 166) rfl) rfl, _, rfl, by decide +kernel⟩, fun h => absurd h (by decide), fun h => absurd h (by decide)⟩
theorem a_okC197 : a_okC (4, 105, 0, 136) := ⟨a_m136, rfl, a_t5 (List.mem_of_getElem? (i := 138) rfl) rfl, a_t1 (List.mem_of_getElem? (i := 5) rfl) rfl, fun _ => ⟨a_t5 (List.mem_of_getElem? (i := 43) rfl) rfl, a_t5 (List.mem_of_getElem? (i := 44) rfl) rfl, _, rfl, by decide +kernel⟩, fun h => absurd h (by decide), fun h => absurd h (by decide)⟩
theorem a_okC198 : a_okC (4, 109, 0, 115) := ⟨a_m115, rfl, a_t5 (List.mem_of_getElem? (i := 139) rfl) rfl, a_t1 (List.mem_of_getElem? (i := 5) rfl) rfl, fun _ => ⟨a_t4 (List.mem_of_getElem? (i := 186) rfl) rfl, a_t4 (List.mem_of_getElem? (i := 187) rfl) rfl, _, rfl, by decide +kernel⟩, fun h => absurd h (by decide), fun h => absurd h (by decide)⟩
theorem a_okC199 : a_okC (4, 113, 0, 155) := ⟨a_m155, rfl, a_t5 (List.mem_of_getElem? (i := 140) rfl) rfl, a_t1 (List.mem_of_getElem? (i := 9) rfl) rfl, fun _ => ⟨a_t5 (List.mem_of_getElem? (i := 141) rfl) rfl, a_t5 (List.mem_of_getElem? (i := 142) rfl) rfl, _, rfl, by decide +kernel⟩, fun h => absurd h (by decide), fun h => absurd h (by decide)⟩
theorem a_okC200 : a_okC (4, 126, 0, 52) := ⟨a_m52, rfl, a_t5 (List.mem_of_getElem? (i := 144) rfl) rfl, a_t1 (List.mem_of_getElem? (i := 11) rfl) rfl, fun _ => ⟨a_t3 (List.mem_of_getElem? (i := 141) rfl) rfl, a_t3 (List.mem_of_getElem? (i := 142) rfl) rfl, _, rfl, by decide +kernel⟩, fun h => absurd h (by decide), fun h => absurd h (by decide)⟩
theorem a_okC201 : a_okC (4, 87, 0, 156) := ⟨a_m156, rfl, a_t5 (List.mem_of_getElem? (i := 145) rfl) rfl, a_t1 (List.mem_of_getElem? (i := 9) rfl) rfl, fun _ => ⟨a_t5 (List.mem_of_getElem? (i := 146) rfl) rfl, a_t5 (List.mem_of_getElem? (i := 147) rfl) rfl, _, rfl, by decide +kernel⟩, fun h => absurd h (by decide), fun h => absurd h (by decide)⟩
theorem a_okC202 : a_okC (11, 348, 0, 157) := ⟨a_m157, rfl, a_t5 (List.mem_of_getElem? (i := 149) rfl) rfl, a_t1 (List.mem_of_getElem? (i := 9) rfl) rfl, fun _ => ⟨a_t5 (List.mem_of_getElem? (i := 150) rfl) rfl, a_t5 (List.mem_of_getElem? (i := 151) rfl) rfl, _, rfl, by decide +kernel⟩, fun h => absurd h (by decide), fun h => absurd h (by decide)⟩
theorem a_okC203 : a_okC (13, 148, 0, 158) := ⟨a_m158, rfl, a_t5 (List.mem_of_getElem? (i := 153) rfl) rfl, a_t1 (List.mem_of_getElem? (i := 1) rfl) rfl, fun _ => ⟨a_t5 (List.mem_of_getElem? (i := 154) rfl) rfl, a_t5 (List.mem_of_getElem? (i := 155) rfl) rfl, _, rfl, by decide +kernel⟩, fun h => absurd h (by decide), fun h => absurd h (by decide)⟩
theorem a_okC204 : a_okC (11, 351, 0, 159) := ⟨a_m159, rfl, a_t5 (List.mem_of_getElem? (i := 157) rfl) rfl, a_t1 (List.mem_of_getElem? (i := 9) rfl) rfl, fun _ => ⟨a_t5 (List.mem_of_getElem? (i := 158) rfl) rfl, a_t5 (List.mem_of_getElem? (i := 159) rfl) rfl, _, rfl, by decide +kernel⟩, fun h => absurd h (by decide), fun h => absurd h (by decide)⟩
theorem a_okC205 : a_okC (4, 130, 0, 45) := ⟨a_m45, rfl, a_t5 (List.mem_of_getElem? (i := 161) rfl) rfl, a_t1 (List.mem_of_getElem? (i := 5) rfl) rfl, fun _ => ⟨a_t3 (List.mem_of_getElem? (i := 108) rfl) rfl, a_t3 (List.mem_of_getElem? (i := 109) rfl) rfl, _, rfl, by decide +kernel⟩, fun h => absurd h (by decide), fun h => absurd h (by decide)⟩
theorem a_okC206 : a_okC (4, 133, 0, 113) := ⟨a_m113, rfl, a_t5 (List.mem_of_getElem? (i := 162) rfl) rfl, a_t1 (List.mem_of_getElem? (i := 5) rfl) rfl, fun _ => ⟨a_t4 (List.mem_of_getElem? (i := 178) rfl) rfl, a_t4 (List.mem_of_getElem? (i := 179) rfl) rfl, _, rfl, by decide +kernel⟩, fun h => absurd h (by decide), fun h => absurd h (by decide)⟩
theorem a_okC207 : a_okC (13, 152, 0, 160) := ⟨a_m160, rfl, a_t5 (List.mem_of_getElem? (i := 163) rfl) rfl, a_t1 (List.mem_of_getElem? (i := 1) rfl) rfl, fun _ => ⟨a_t5 (List.mem_of_getElem? (i := 164) rfl) rfl, a_t5 (List.mem_of_getElem? (i := 165) rfl) rfl, _, rfl, by decide +kernel⟩, fun h => absurd h (by decide), fun h => absurd h (by decide)⟩
theorem a_okC208 : a_okC (11, 354, 0, 161) := ⟨a_m161, rfl, a_t5 (List.mem_of_getElem? (i := 167) rfl) rfl, a_t1 (List.mem_of_getElem? (i := 11) rfl) rfl, fun _ => ⟨a_t5 (List.mem_of_getElem? (i := 168) rfl) rfl, a_t5 (List.mem_of_getElem? (i := 169) rfl) rfl, _, rfl, by decide +kernel⟩, fun h => absurd h (by decide), fun h => absurd h (by decide)⟩
theorem a_okC209 : a_okC (13, 156, 0, 162) := ⟨a_m162, rfl, a_t5 (List.mem_of_getElem? (i := 171) rfl) rfl, a_t1 (List.mem_of_getElem? (i := 1) rfl) rfl, fun _ => ⟨a_t5 (List.mem_of_getElem? (i := 172) rfl) rfl, a_t5 (List.mem_of_getElem? (i := 173) rfl) rfl, _, rfl, by decide +kernel⟩, fun h => absurd h (by decide), fun h => absurd h (by decide)⟩
theorem a_okC210 : a_okC (13, 160, 0, 163) := ⟨a_m163, rfl, a_t5 (List.mem_of_getElem? (i := 175) rfl) rfl, a_t1 (List.mem_of_getElem? (i := 1) rfl) rfl, fun _ => ⟨a_t5 (List.mem_of_getElem? (i := 176) rfl) rfl, a_t5 (List.mem_of_getElem? (i := 177) rfl) rfl, _, rfl, by decide +kernel⟩, fun h => absurd h (by decide), fun h => absurd h (by decide)⟩
theorem a_okC211 : a_okC (13, 164, 0, 164) := ⟨a_m164, rfl, a_t5 (List.mem_of_getElem? (i := 179) rfl) rfl, a_t1 (List.mem_of_getElem? (i := 1) rfl) rfl, fun _ => ⟨a_t5 (List.mem_of_getElem? (i := 180) rfl) rfl, a_t5 (List.mem_of_getElem? (i := 181) rfl) rfl, _, rfl, by decide +kernel⟩, fun h => absurd h (by decide), fun h => absurd h (by decide)⟩
theorem a_okC212 : a_okC (11, 363, 0, 165) := ⟨a_m165, rfl, a_t5 (List.mem_of_getElem? (i := 183) rfl) rfl, a_t1 (List.mem_of_getElem? (i := 1) rfl) rfl, fun _ => ⟨a_t5 (List.mem_of_getElem? (i := 185) rfl) rfl, a_mem_p (List.mem_of_getElem? (i := 5) rfl) rfl, _, rfl, by decide +kernel⟩, fun h => absurd h (by decide), fun h => absurd h (by decide)⟩
theorem a_okC213 : a_okC (13, 168, 0, 166) := ⟨a_m166, rfl, a_t5 (List.mem_of_getElem? (i := 187) rfl) rfl, a_t1 (List.mem_of_getElem? (i := 1) rfl) rfl, fun _ => ⟨a_t5 (List.mem_of_getElem? (i := 188) rfl) rfl, a_t5 (List.mem_of_getElem? (i := 189) rfl) rfl, _, rfl, by decide +kernel⟩, fun h => absurd h (by decide), fun h => absurd h (by decide)⟩
theorem a_okC214 : a_okC (11, 367, 0, 167) := ⟨a_m167, rfl, a_t5 (List.mem_of_getElem? (i := 191) rfl) rfl, a_t1 (List.mem_of_getElem? (i := 5) rfl) rfl, fun _ => ⟨a_t5 (List.mem_of_getElem? (i := 192) rfl) rfl, a_t5 (List.mem_of_getElem? (i := 193) rfl) rfl, _, rfl, by decide +kernel⟩, fun h => absurd h (by decide), fun h => absurd h (by decide)⟩
theorem a_okC215 : a_okC (11, 370, 0, 168) := ⟨a_m168, rfl, a_t5 (List.mem_of_getElem? (i := 195) rfl) rfl, a_t1 (List.mem_of_getElem? (i := 5) rfl) rfl, fun _ => ⟨a_t5 (List.mem_of_getElem? (i := 196) rfl) rfl, a_t5 (List.mem_of_getElem? (i := 197) rfl) rfl, _, rfl, by decide +kernel⟩, fun h => absurd h (by decide), fun h => absurd h (by decide)⟩
theorem a_okC216 : a_okC (13, 12, 2, 169) := ⟨a_m169, rfl, a_t5 (List.mem_of_getElem? (i := 201) rfl) rfl, a_t1 (List.mem_of_getElem? (i := 10) rfl) rfl, fun h => absurd h (by decide), fun h => absurd h (by decide), fun _ => ⟨a_t5 (List.mem_of_getElem? (i := 202) rfl) rfl, rfl⟩⟩
theorem a_okC217 : a_okC (13, 17, 0, 170) := ⟨a_m170, rfl, a_t6 (List.mem_of_getElem? (i := 208) rfl) rfl, a_t1 (List.mem_of_getElem? (i := 10) rfl) rfl, fun _ => ⟨a_t6 (List.mem_of_getElem? (i := 209) rfl) rfl, a_t6 (List.mem_of_getElem? (i := 210) rfl) rfl, _, rfl, by decide +kernel⟩, fun h => absurd h (by decide), fun h => absurd h (by decide)⟩
theorem a_okC218 : a_okC (12, 189, 0, 171) := ⟨a_m171, rfl, a_t6 (List.mem_of_getElem? (i := 212) rfl) rfl, a_t1 (List.mem_of_getElem? (i := 10) rfl) rfl, fun _ => ⟨a_t6 (List.mem_of_getElem? (i := 214) rfl) rfl, a_mem_p (List.mem_of_getElem? (i := 6) rfl) rfl, _, rfl, by decide +kernel⟩, fun h => absurd h (by decide), fun h => absurd h (by decide)⟩
theorem a_okC219 : a_okC (13, 22, 0, 172) := ⟨a_m172, rfl, a_t6 (List.mem_of_getElem? (i := 216) rfl) rfl, a_t1 (List.mem_of_getElem? (i := 10) rfl) rfl, fun _ => ⟨a_t6 (List.mem_of_getElem? (i := 217) rfl) rfl, a_t6 (List.mem_of_getElem? (i := 218) rfl) rfl, _, rfl, by decide +kernel⟩, fun h => absurd h (by decide), fun h => absurd h (by decide)⟩
theorem a_okC220 : a_okC (12, 193, 1, 173) := ⟨a_m173, rfl, a_t6 (List.mem_of_getElem? (i := 220) rfl) rfl, a_t1 (List.mem_of_getElem? (i := 10) rfl) rfl, fun h => absurd h (by decide), fun _ => a_t6 (List.mem_of_getElem? (i := 221) rfl) rfl, fun h => absurd h (by decide)⟩
theorem a_okC221 : a_okC (12, 176, 1, 174) := ⟨a_m174, rfl, a_t6 (List.mem_of_getElem? (i := 223) rfl) rfl, a_t1 (List.mem_of_getElem? (i := 10) rfl) rfl, fun h => absurd h (by decide), fun _ => a_t6 (List.mem_of_getElem? (i := 224) rfl) rfl, fun h => absurd h (by decide)⟩
theorem a_okC222 : a_okC (13, 27, 0, 175) := ⟨a_m175, rfl, a_t6 (List.mem_of_getElem? (i := 226) rfl) rfl, a_t1 (List.mem_of_getElem? (i := 10) rfl) rfl, fun _ => ⟨a_t6 (List.mem_of_getElem? (i := 227) rfl) rfl, a_t6 (List.mem_of_getElem? (i := 228) rfl) rfl, _, rfl, by decide +kernel⟩, fun h => absurd h (by decide), fun h => absurd h (by decide)⟩
theorem a_okC223 : a_okC (13, 31, 0, 176) := ⟨a_m176, rfl, a_t6 (List.mem_of_getElem? (i := 230) rfl) rfl, a_t1 (List.mem_of_getElem? (i := 10) rfl) rfl, fun _ => ⟨a_t6 (List.mem_of_getElem? (i := 231) rfl) rfl, a_t6 (List.mem_of_getElem? (i := 232) rfl) rfl, _, rfl, by decide +kernel⟩, fun h => absurd h (by decide), fun h => absurd h (by decide)⟩
theorem a_okC224 : a_okC (12, 200, 0, 177) := ⟨a_m177, rfl, a_t6 (List.mem_of_getElem? (i := 234) rfl) rfl, a_t1 (List.mem_of_getElem? (i := 10) rfl) rfl, fun _ => ⟨a_t6 (List.mem_of_getElem? (i := 236) rfl) rfl, a_mem_p (List.mem_of_getElem? (i := 7) rfl) rfl, _, rfl, by decide +kernel⟩, fun h => absurd h (by decide), fun h => absurd h (by decide)⟩
theorem a_okC225 : a_okC (13, 35, 0, 178) := ⟨a_m178, rfl, a_t6 (List.mem_of_getElem? (i := 238) rfl) rfl, a_t1 (List.mem_of_getElem? (i := 10) rfl) rfl, fun _ => ⟨a_t6 (List.mem_of_getElem? (i := 239) rfl) rfl, a_t7 (List.mem_of_getElem? (i := 0) rfl) rfl, _, rfl, by decide +kernel⟩, fun h => absurd h (by decide), fun h => absurd h (by decide)⟩
theorem a_okC226 : a_okC (13, 39, 0, 179) := ⟨a_m179, rfl, a_t7 (List.mem_of_getElem? (i := 2) rfl) rfl, a_t1 (List.mem_of_getElem? (i := 10) rfl) rfl, fun _ => ⟨a_t7 (List.mem_of_getElem? (i := 3) rfl) rfl, a_t7 (List.mem_of_getElem? (i := 4) rfl) rfl, _, rfl, by decide +kernel⟩, fun h => absurd h (by decide), fun h => absurd h (by decide)⟩
theorem a_okC227 : a_okC (13, 44, 0, 180) := ⟨a_m180, rfl, a_t7 (List.mem_of_getElem? (i := 6) rfl) rfl, a_t1 (List.mem_of_getElem? (i := 10) rfl) rfl, fun _ => ⟨a_t7 (List.mem_of_getElem? (i := 7) rfl) rfl, a_t7 (List.mem_of_getElem? (i := 8) rfl) rfl, _, rfl, by decide +kernel⟩, fun h => absurd h (by decide), fun h => absurd h (by decide)⟩
theorem a_okC228 : a_okC (13, 49, 0, 181) := ⟨a_m181, rfl, a_t7 (List.mem_of_getElem? (i := 10) rfl) rfl, a_t1 (List.mem_of_getElem? (i := 10) rfl) rfl, fun _ => ⟨a_t7 (List.mem_of_getElem? (i := 11) rfl) rfl, a_t7 (List.mem_of_getElem? (i := 12) rfl) rfl, _, rfl, by decide +kernel⟩, fun h => absurd h (by decide), fun h => absurd h (by decide)⟩
theorem a_okC229 : a_okC (12, 223, 0, 182) := ⟨a_m182, rfl, a_t7 (List.mem_of_getElem? (i := 14) rfl) rfl, a_t1 (List.mem_of_getElem? (i := 10) rfl) rfl, fun _ => ⟨a_t7 (List.mem_of_getElem? (i := 16) rfl) rfl, a_mem_p (List.mem_of_getElem? (i := 8) rfl) rfl, _, rfl, by decide +kernel⟩, fun h => absurd h (by decide), fun h => absurd h (by decide)⟩
theorem a_okC230 : a_okC (12, 226, 0, 183) := ⟨a_m183, rfl, a_t7 (List.mem_of_getElem? (i := 18) rfl) rfl, a_t1 (List.mem_of_getElem? (i := 10) rfl) rfl, fun _ => ⟨a_t7 (List.mem_of_getElem? (i := 20) rfl) rfl, a_mem_p (List.mem_of_getElem? (i := 9) rfl) rfl, _, rfl, by decide +kernel⟩, fun h => absurd h (by decide), fun h => absurd h (by decide)⟩
theorem a_okC231 : a_okC (13, 53, 0, 184) := ⟨a_m184, rfl, a_t7 (List.mem_of_getElem? (i := 22) rfl) rfl, a_t1 (List.mem_of_getElem? (i := 10) rfl) rfl, fun _ => ⟨a_t7 (List.mem_of_getElem? (i := 23) rfl) rfl, a_t7 (List.mem_of_getElem? (i := 24) rfl) rfl, _, rfl, by decide +kernel⟩, fun h => absurd h (by decide), fun h => absurd h (by decide)⟩
theorem a_okC232 : a_okC (12, 244, 0, 185) := ⟨a_m185, rfl, a_t7 (List.mem_of_getElem? (i := 26) rfl) rfl, a_t1 (List.mem_of_getElem? (i := 10) rfl) rfl, fun _ => ⟨a_t7 (List.mem_of_getElem? (i := 28) rfl) rfl, a_mem_p (List.mem_of_getElem? (i := 10) rfl) rfl, _, rfl, by decide +kernel⟩, fun h => absurd h (by decide), fun h => absurd h (by decide)⟩
theorem a_okC233 : a_okC (12, 247, 0, 186) := ⟨a_m186, rfl, a_t7 (List.mem_of_getElem? (i := 30) rfl) rfl, a_t1 (List.mem_of_getElem? (i := 10) rfl) rfl, fun _ => ⟨a_t7 (List.mem_of_getElem? (i := 32) rfl) rfl, a_mem_p (List.mem_of_getElem? (i := 11) rfl) rfl, _, rfl, by decide +kernel⟩, fun h => absurd h (by decide), fun h => absurd h (by decide)⟩
theorem a_okC234 : a_okC (12, 241, 0, 187) := ⟨a_m187, rfl, a_t7 (List.mem_of_getElem? (i := 34) rfl) rfl, a_t1 (List.mem_of_getElem? (i := 10) rfl) rfl, fun _ => ⟨a_t7 (List.mem_of_getElem? (i := 36) rfl) rfl, a_mem_p (List.mem_of_getElem? (i := 12) rfl) rfl, _, rfl, by decide +kernel⟩, fun h => absurd h (by decide), fun h => absurd h (by decide)⟩
theorem a_okC235 : a_okC (13, 57, 0, 188) := ⟨a_m188, rfl, a_t7 (List.mem_of_getElem? (i := 38) rfl) rfl, a_t1 (List.mem_of_getElem? (i := 10) rfl) rfl, fun _ => ⟨a_t7 (List.mem_of_getElem? (i := 39) rfl) rfl, a_t7 (List.mem_of_getElem? (i := 40) rfl) rfl, _, rfl, by decide +kernel⟩, fun h => absurd h (by decide), fun h => absurd h (by decide)⟩
theorem a_okC236 : a_okC (12, 251, 0, 189) := ⟨a_m189, rfl, a_t7 (List.mem_of_getElem? (i := 42) rfl) rfl, a_t1 (List.mem_of_getElem? (i := 10) rfl) rfl, fun _ => ⟨a_t7 (List.mem_of_getElem? (i := 44) rfl) rfl, a_mem_p (List.mem_of_getElem? (i := 13) rfl) rfl, _, rfl, by decide +kernel⟩, fun h => absurd h (by decide), fun h => absurd h (by decide)⟩
theorem a_okC237 : a_okC (12, 254, 0, 190) := ⟨a_m190, rfl, a_t7 (List.mem_of_getElem? (i := 46) rfl) rfl, a_t1 (List.mem_of_getElem? (i := 10) rfl) rfl, fun _ => ⟨a_t7 (List.mem_of_getElem? (i := 48) rfl) rfl, a_mem_p (List.mem_of_getElem? (i := 14) rfl) rfl, _, rfl, by decide +kernel⟩, fun h => absurd h (by decide), fun h => absurd h (by decide)⟩
theorem a_okC238 : a_okC (12, 329, 0, 191) := ⟨a_m191, rfl, a_t7 (List.mem_of_getElem? (i := 50) rfl) rfl, a_t1 (List.mem_of_getElem? (i := 10) rfl) rfl, fun _ => ⟨a_t7 (List.mem_of_getElem? (i := 52) rfl) rfl, a_mem_p (List.mem_of_getElem? (i := 15) rfl) rfl, _, rfl, by decide +kernel⟩, fun h => absurd h (by decide), fun h => absurd h (by decide)⟩
theorem a_okC239 : a_okC (12, 325, 0, 192) := ⟨a_m192, rfl, a_t7 (List.mem_of_getElem? (i := 54) rfl) rfl, a_t1 (List.mem_of_getElem? (i := 10) rfl) rfl, fun _ => ⟨a_t7 (List.mem_of_getElem? (i := 56) rfl) rfl, a_mem_p (List.mem_of_getElem? (i := 16) rfl) rfl, _, rfl, by decide +kernel⟩, fun h => absurd h (by decide), fun h => absurd h (by decide)⟩
theorem a_okC240 : a_okC (12, 319, 0, 193) := ⟨a_m193, rfl, a_t7 (List.mem_of_getElem? (i := 58) rfl) rfl, a_t1 (List.mem_of_getElem? (i := 10) rfl) rfl, fun _ => ⟨a_t7 (List.mem_of_getElem? (i := 60) rfl) rfl, a_mem_p (List.mem_of_getElem? (i := 17) rfl) rfl, _, rfl, by decide +kernel⟩, fun h => absurd h (by decide), fun h => absurd h (by decide)⟩
theorem a_okC241 : a_okC (12, 350, 0, 194) := ⟨a_m194, rfl, a_t7 (List.mem_of_getElem? (i := 62) rfl) rfl, a_t1 (List.mem_of_getElem? (i := 10) rfl) rfl, fun _ => ⟨a_t7 (List.mem_of_getElem? (i := 64) rfl) rfl, a_mem_p (List.mem_of_getElem? (i := 18) rfl) rfl, _, rfl, by decide +kernel⟩, fun h => absurd h (by decide), fun h => absurd h (by decide)⟩
theorem a_okC242 : a_okC (12, 322, 0, 195) := ⟨a_m195, rfl, a_t7 (List.mem_of_getElem? (i := 66) rfl) rfl, a_t1 (List.mem_of_getElem? (i := 10) rfl) rfl, fun _ => ⟨a_t7 (List.mem_of_getElem? (i := 68) rfl) rfl, a_mem_p (List.mem_of_getElem? (i := 19) rfl) rfl, _, rfl, by decide +kernel⟩, fun h => absurd h (by decide), fun h => absurd h (by decide)⟩
theorem a_okC243 : a_okC (12, 287, 0, 196) := ⟨a_m196, rfl, a_t7 (List.mem_of_getElem? (i := 70) rfl) rfl, a_t1 (List.mem_of_getElem? (i := 10) rfl) rfl, fun _ => ⟨a_t7 (List.mem_of_getElem? (i := 72) rfl) rfl, a_mem_p (List.mem_of_getElem? (i := 20) rfl) rfl, _, rfl, by decide +kernel⟩, fun h => absurd h (by decide), fun h => absurd h (by decide)⟩
theorem a_okC244 : a_okC (12, 284, 0, 197) := ⟨a_m197, rfl, a_t7 (List.mem_of_getElem? (i := 74) rfl) rfl, a_t1 (List.mem_of_getElem? (i := 10) rfl) rfl, fun _ => ⟨a_t7 (List.mem_of_getElem? (i := 76) rfl) rfl, a_mem_p (List.mem_of_getElem? (i := 21) rfl) rfl, _, rfl, by decide +kernel⟩, fun h => absurd h (by decide), fun h => absurd h (by decide)⟩
theorem a_okC245 : a_okC (12, 274, 0, 198) := ⟨a_m198, rfl, a_t7 (List.mem_of_getElem? (i := 78) rfl) rfl, a_t1 (List.mem_of_getElem? (i := 10) rfl) rfl, fun _ => ⟨a_t7 (List.mem_of_getElem? (i := 80) rfl) rfl, a_mem_p (List.mem_of_getElem? (i := 22) rfl) rfl, _, rfl, by decide +kernel⟩, fun h => absurd h (by decide), fun h => absurd h (by decide)⟩
theorem a_okC246 : a_okC (12, 278, 1, 199) := ⟨a_m199, rfl, a_t7 (List.mem_of_getElem? (i := 82) rfl) rfl, a_t1 (List.mem_of_getElem? (i := 10) rfl) rfl, fun h => absurd h (by decide), fun _ => a_t7 (List.mem_of_getElem? (i := 83) rfl) rfl, fun h => absurd h (by decide)⟩
theorem a_okC247 : a_okC (13, 64, 0, 200) := ⟨a_m200, rfl, a_t7 (List.mem_of_getElem? (i := 85) rfl) rfl, a_t1 (List.mem_of_getElem? (i := 10) rfl) rfl, fun _ => ⟨a_t7 (List.mem_of_getElem? (i := 86) rfl) rfl, a_t7 (List.mem_of_getElem? (i := 87) rfl) rfl, _, rfl, by decide +kernel⟩, fun h => absurd h (by decide), fun h => absurd h (by decide)⟩
theorem a_okC248 : a_okC (13, 68, 0, 201) := ⟨a_m201, rfl, a_t7 (List.mem_of_getElem? (i := 90) rfl) rfl, a_t1 (List.mem_of_getElem? (i := 10) rfl) rfl, fun _ => ⟨a_t7 (List.mem_of_getElem? (i := 91) rfl) rfl, a_t7 (List.mem_of_getElem? (i := 92) rfl) rfl, _, rfl, by decide +kernel⟩, fun h => absurd h (by decide), fun h => absurd h (by decide)⟩
theorem a_okC249 : a_okC (12, 315, 0, 202) := ⟨a_m202, rfl, a_t7 (List.mem_of_getElem? (i := 94) rfl) rfl, a_t1 (List.mem_of_getElem? (i := 10) rfl) rfl, fun _ => ⟨a_t7 (List.mem_of_getElem? (i := 96) rfl) rfl, a_mem_p (List.mem_of_getElem? (i := 23) rfl) rfl, _, rfl, by decide +kernel⟩, fun h => absurd h (by decide), fun h => absurd h (by decide)⟩
theorem a_okC250 : a_okC (12, 302, 0, 203) := ⟨a_m203, rfl, a_t7 (List.mem_of_getElem? (i := 98) rfl) rfl, a_t1 (List.mem_of_getElem? (i := 10) rfl) rfl, fun _ => ⟨a_t7 (List.mem_of_getElem? (i := 100) rfl) rfl, a_mem_p (List.mem_of_getElem? (i := 24) rfl) rfl, _, rfl, by decide +kernel⟩, fun h => absurd h (by decide), fun h => absurd h (by decide)⟩
theorem a_okC251 : a_okC (12, 306, 0, 204) := ⟨a_m204, rfl, a_t7 (List.mem_of_getElem? (i := 102) rfl) rfl, a_t1 (List.mem_of_getElem? (i := 10) rfl) rfl, fun _ => ⟨a_t7 (List.mem_of_getElem? (i := 104) rfl) rfl, a_mem_p (List.mem_of_getElem? (i := 25) rfl) rfl, _, rfl, by decide +kernel⟩, fun h => absurd h (by decide), fun h => absurd h (by decide)⟩
theorem a_okC252 : a_okC (12, 293, 0, 205) := ⟨a_m205, rfl, a_t7 (List.mem_of_getElem? (i := 106) rfl) rfl, a_t1 (List.mem_of_getElem? (i := 10) rfl) rfl, fun _ => ⟨a_t7 (List.mem_of_getElem? (i := 108) rfl) rfl, a_mem_p (List.mem_of_getElem? (i := 26) rfl) rfl, _, rfl, by decide +kernel⟩, fun h => absurd h (by decide), fun h => absurd h (by decide)⟩
theorem a_okC253 : a_okC (12, 309, 0, 206) := ⟨a_m206, rfl, a_t7 (List.mem_of_getElem? (i := 110) rfl) rfl, a_t1 (List.mem_of_getElem? (i := 10) rfl) rfl, fun _ => ⟨a_t7 (List.mem_of_getElem? (i := 112) rfl) rfl, a_mem_p (List.mem_of_getElem? (i := 27) rfl) rfl, _, rfl, by decide +kernel⟩, fun h => absurd h (by decide), fun h => absurd h (by decide)⟩
theorem a_okC254 : a_okC (13, 72, 0, 207) := ⟨a_m207, rfl, a_t7 (List.mem_of_getElem? (i := 115) rfl) rfl, a_t1 (List.mem_of_getElem? (i := 10) rfl) rfl, fun _ => ⟨a_t7 (List.mem_of_getElem? (i := 116) rfl) rfl, a_t7 (List.mem_of_getElem? (i := 117) rfl) rfl, _, rfl, by decide +kernel⟩, fun h => absurd h (by decide), fun h => absurd h (by decide)⟩
theorem a_okC255 : a_okC (13, 76, 0, 208) := ⟨a_m208, rfl, a_t7 (List.mem_of_getElem? (i := 119) rfl) rfl, a_t1 (List.mem_of_getElem? (i := 10) rfl) rfl, fun _ => ⟨a_t7 (List.mem_of_getElem? (i := 120) rfl) rfl, a_t7 (List.mem_of_getElem? (i := 121) rfl) rfl, _, rfl, by decide +kernel⟩, fun h => absurd h (by decide), fun h => absurd h (by decide)⟩
theorem a_okC256 : a_okC (12, 335, 0, 209) := ⟨a_m209, rfl, a_t7 (List.mem_of_getElem? (i := 123) rfl) rfl, a_t1 (List.mem_of_getElem? (i := 10) rfl) rfl, fun _ => ⟨a_t7 (List.mem_of_getElem? (i := 125) rfl) rfl, a_mem_p (List.mem_of_getElem? (i := 28) rfl) rfl, _, rfl, by decide +kernel⟩, fun h => absurd h (by decide), fun h => absurd h (by decide)⟩
theorem a_okC257 : a_okC (12, 338, 0, 210) := ⟨a_m210, rfl, a_t7 (List.mem_of_getElem? (i := 127) rfl) rfl, a_t1 (List.mem_of_getElem? (i := 10) rfl) rfl, fun _ => ⟨a_t7 (List.mem_of_getElem? (i := 129) rfl) rfl, a_mem_p (List.mem_of_getElem? (i := 29) rfl) rfl, _, rfl, by decide +kernel⟩, fun h => absurd h (by decide), fun h => absurd h (by decide)⟩
theorem a_okC258 : a_okC (12, 332, 0, 211) := ⟨a_m211, rfl, a_t7 (List.mem_of_getElem? (i := 131) rfl) rfl, a_t1 (List.mem_of_getElem? (i := 10) rfl) rfl, fun _ => ⟨a_t7 (List.mem_of_getElem? (i := 133) rfl) rfl, a_mem_p (List.mem_of_getElem? (i := 30) rfl) rfl, _, rfl, by decide +kernel⟩, fun h => absurd h (by decide), fun h => absurd h (by decide)⟩
theorem a_okC259 : a_okC (12, 342, 0, 212) := ⟨a_m212, rfl, a_t7 (List.mem_of_getElem? (i := 135) rfl) rfl, a_t1 (List.mem_of_getElem? (i := 10) rfl) rfl, fun _ => ⟨a_t7 (List.mem_of_getElem? (i := 137) rfl) rfl, a_mem_p (List.mem_of_getElem? (i := 31) rfl) rfl, _, rfl, by decide +kernel⟩, fun h => absurd h (by decide), fun h => absurd h (by decide)⟩
theorem a_okC260 : a_okC (13, 80, 0, 213) := ⟨a_m213, rfl, a_t7 (List.mem_of_getElem? (i := 139) rfl) rfl, a_t1 (List.mem_of_getElem? (i := 10) rfl) rfl, fun _ => ⟨a_t7 (List.mem_of_getElem? (i := 140) rfl) rfl, a_t7 (List.mem_of_getElem? (i := 141) rfl) rfl, _, rfl, by decide +kernel⟩, fun h => absurd h (by decide), fun h => absurd h (by decide)⟩
theorem a_okC261 : a_okC (12, 346, 1, 214) := ⟨a_m214, rfl, a_t7 (List.mem_of_getElem? (i := 143) rfl) rfl, a_t1 (List.mem_of_getElem? (i := 10) rfl) rfl, fun h => absurd h (by decide), fun _ => a_t7 (List.mem_of_getElem? (i := 144) rfl) rfl, fun h => absurd h (by decide)⟩
theorem a_okC262 : a_okC (13, 84, 0, 215) := ⟨a_m215, rfl, a_t7 (List.mem_of_getElem? (i := 146) rfl) rfl, a_t1 (List.mem_of_getElem? (i := 10) rfl) rfl, fun _ => ⟨a_t7 (List.mem_of_getElem? (i := 147) rfl) rfl, a_t7 (List.mem_of_getElem? (i := 148) rfl) rfl, _, rfl, by decide +kernel⟩, fun h => absurd h (by decide), fun h => absurd h (by decide)⟩
theorem a_okC263 : a_okC (13, 88, 0, 216) := ⟨a_m216, rfl, a_t7 (List.mem_of_getElem? (i := 150) rfl) rfl, a_t1 (List.mem_of_getElem? (i := 10) rfl) rfl, fun _ => ⟨a_t7 (List.mem_of_getElem? (i := 151) rfl) rfl, a_t7 (List.mem_of_getElem? (i := 152) rfl) rfl, _, rfl, by decide +kernel⟩, fun h => absurd h (by decide), fun h => absurd h (by decide)⟩
theorem a_okC264 : a_okC (13, 92, 0, 217) := ⟨a_m217, rfl, a_t7 (List.mem_of_getElem? (i := 154) rfl) rfl, a_t1 (List.mem_of_getElem? (i := 10) rfl) rfl, fun _ => ⟨a_t7 (List.mem_of_getElem? (i := 155) rfl) rfl, a_t7 (List.mem_of_getElem? (i := 156) rfl) rfl, _, rfl, by decide +kernel⟩, fun h => absurd h (by decide), fun h => absurd h (by decide)⟩
theorem a_okC265 : a_okC (12, 353, 0, 218) := ⟨a_m218, rfl, a_t7 (List.mem_of_getElem? (i := 158) rfl) rfl, a_t1 (List.mem_of_getElem? (i := 10) rfl) rfl, fun _ => ⟨a_t7 (List.mem_of_getElem? (i := 160) rfl) rfl, a_mem_p (List.mem_of_getElem? (i := 32) rfl) rfl, _, rfl, by decide +kernel⟩, fun h => absurd h (by decide), fun h => absurd h (by decide)⟩
theorem a_okC266 : a_okC (12, 356, 0, 219) := ⟨a_m219, rfl, a_t7 (List.mem_of_getElem? (i := 163) rfl) rfl, a_t1 (List.mem_of_getElem? (i := 10) rfl) rfl, fun _ => ⟨a_t7 (List.mem_of_getElem? (i := 165) rfl) rfl, a_mem_p (List.mem_of_getElem? (i := 33) rfl) rfl, _, rfl, by decide +kernel⟩, fun h => absurd h (by decide), fun h => absurd h (by decide)⟩
theorem a_okC267 : a_okC (13, 96, 0, 220) := ⟨a_m220, rfl, a_t7 (List.mem_of_getElem? (i := 168) rfl) rfl, a_t1 (List.mem_of_getElem? (i := 10) rfl) rfl, fun _ => ⟨a_t7 (List.mem_of_getElem? (i := 169) rfl) rfl, a_t7 (List.mem_of_getElem? (i := 170) rfl) rfl, _, rfl, by decide +kernel⟩, fun h => absurd h (by decide), fun h => absurd h (by decide)⟩
theorem a_okC268 : a_okC (12, 381, 0, 221) := ⟨a_m221, rfl, a_t7 (List.mem_of_getElem? (i := 172) rfl) rfl, a_t1 (List.mem_of_getElem? (i := 10) rfl) rfl, fun _ => ⟨a_t7 (List.mem_of_getElem? (i := 174) rfl) rfl, a_mem_p (List.mem_of_getElem? (i := 34) rfl) rfl, _, rfl, by decide +kernel⟩, fun h => absurd h (by decide), fun h => absurd h (by decide)⟩
theorem a_okC269 : a_okC (12, 378, 0, 222) := ⟨a_m222, rfl, a_t7 (List.mem_of_getElem? (i := 176) rfl) rfl, a_t1 (List.mem_of_getElem? (i := 10) rfl) rfl, fun _ => ⟨a_t7 (List.mem_of_getElem? (i := 178) rfl) rfl, a_mem_p (List.mem_of_getElem? (i := 35) rfl) rfl, _, rfl, by decide +kernel⟩, fun h => absurd h (by decide), fun h => absurd h (by decide)⟩
theorem a_okC270 : a_okC (12, 365, 0, 223) := ⟨a_m223, rfl, a_t7 (List.mem_of_getElem? (i := 180) rfl) rfl, a_t1 (List.mem_of_getElem? (i := 10) rfl) rfl, fun _ => ⟨a_t7 (List.mem_of_getElem? (i := 182) rfl) rfl, a_mem_p (List.mem_of_getElem? (i := 36) rfl) rfl, _, rfl, by decide +kernel⟩, fun h => absurd h (by decide), fun h => absurd h (by decide)⟩
theorem a_okC271 : a_okC (12, 368, 0, 224) := ⟨a_m224, rfl, a_t7 (List.mem_of_getElem? (i := 184) rfl) rfl, a_t1 (List.mem_of_getElem? (i := 10) rfl) rfl, fun _ => ⟨a_t7 (List.mem_of_getElem? (i := 186) rfl) rfl, a_mem_p (List.mem_of_getElem? (i := 37) rfl) rfl, _, rfl, by decide +kernel⟩, fun h => absurd h (by decide), fun h => absurd h (by decide)⟩
theorem a_okC272 : a_okC (12, 359, 0, 225) := ⟨a_m225, rfl, a_t7 (List.mem_of_getElem? (i := 188) rfl) rfl, a_t1 (List.mem_of_getElem? (i := 10) rfl) rfl, fun _ => ⟨a_t7 (List.mem_of_getElem? (i := 190) rfl) rfl, a_mem_p (List.mem_of_getElem? (i := 38) rfl) rfl, _, rfl, by decide +kernel⟩, fun h => absurd h (by decide), fun h => absurd h (by decide)⟩
theorem a_okC273 : a_okC (12, 371, 1, 226) := ⟨a_m226, rfl, a_t7 (List.mem_of_getElem? (i := 192) rfl) rfl, a_t1 (List.mem_of_getElem? (i := 10) rfl) rfl, fun h => absurd h (by decide), fun _ => a_t7 (List.mem_of_getElem? (i := 193) rfl) rfl, fun h => absurd h (by decide)⟩
theorem a_okC274 : a_okC (12, 362, 0, 227) := ⟨a_m227, rfl, a_t7 (List.mem_of_getElem? (i := 195) rfl) rfl, a_t1 (List.mem_of_getElem? (i := 10) rfl) rfl, fun _ => ⟨a_t7 (List.mem_of_getElem? (i := 197) rfl) rfl, a_mem_p (List.mem_of_getElem? (i := 39) rfl) rfl, _, rfl, by decide +kernel⟩, fun h => absurd h (by decide), fun h => absurd h (by decide)⟩
theorem a_okC275 : a_okC (12, 374, 0, 228) := ⟨a_m228, rfl, a_t7 (List.mem_of_getElem? (i := 199) rfl) rfl, a_t1 (List.mem_of_getElem? (i := 10) rfl) rfl, fun _ => ⟨a_t7 (List.mem_of_getElem? (i := 201) rfl) rfl, a_mem_p (List.mem_of_getElem? (i := 40) rfl) rfl, _, rfl, by decide +kernel⟩, fun h => absurd h (by decide), fun h => absurd h (by decide)⟩
theorem a_okC276 : a_okC (13, 100, 0, 229) := ⟨a_m229, rfl, a_t7 (List.mem_of_getElem? (i := 203) rfl) rfl, a_t1 (List.mem_of_getElem? (i := 10) rfl) rfl, fun _ => ⟨a_t7 (List.mem_of_getElem? (i := 204) rfl) rfl, a_t7 (List.mem_of_getElem? (i := 205) rfl) rfl, _, rfl, by decide +kernel⟩, fun h => absurd h (by decide), fun h => absurd h (by decide)⟩
theorem a_okC277 : a_okC (12, 384, 0, 230) := ⟨a_m230, rfl, a_t7 (List.mem_of_getElem? (i := 207) rfl) rfl, a_t1 (List.mem_of_getElem? (i := 10) rfl) rfl, fun _ => ⟨a_t7 (List.mem_of_getElem? (i := 209) rfl) rfl, a_mem_p (List.mem_of_getElem? (i := 41) rfl) rfl, _, rfl, by decide +kernel⟩, fun h => absurd h (by decide), fun h => absurd h (by decide)⟩
theorem a_okC278 : a_okC (12, 237, 0, 231) := ⟨a_m231, rfl, a_t7 (List.mem_of_getElem? (i := 211) rfl) rfl, a_t1 (List.mem_of_getElem? (i := 10) rfl) rfl, fun _ => ⟨a_t7 (List.mem_of_getElem? (i := 213) rfl) rfl, a_mem_p (List.mem_of_getElem? (i := 42) rfl) rfl, _, rfl, by decide +kernel⟩, fun h => absurd h (by decide), fun h => absurd h (by decide)⟩
theorem a_okC279 : a_okC (12, 233, 0, 232) := ⟨a_m232, rfl, a_t7 (List.mem_of_getElem? (i := 215) rfl) rfl, a_t1 (List.mem_of_getElem? (i := 10) rfl) rfl, fun _ => ⟨a_t7 (List.mem_of_getElem? (i := 217) rfl) rfl, a_mem_p (List.mem_of_getElem? (i := 43) rfl) rfl, _, rfl, by decide +kernel⟩, fun h => absurd h (by decide), fun h => absurd h (by decide)⟩
theorem a_okC280 : a_okC (13, 104, 0, 233) := ⟨a_m233, rfl, a_t7 (List.mem_of_getElem? (i := 219) rfl) rfl, a_t1 (List.mem_of_getElem? (i := 10) rfl) rfl, fun _ => ⟨a_t7 (List.mem_of_getElem? (i := 220) rfl) rfl, a_t7 (List.mem_of_getElem? (i := 221) rfl) rfl, _, rfl, by decide +kernel⟩, fun h => absurd h (by decide), fun h => absurd h (by decide)⟩
theorem a_okC281 : a_okC (13, 108, 0, 234) := ⟨a_m234, rfl, a_t7 (List.mem_of_getElem? (i := 223) rfl) rfl, a_t1 (List.mem_of_getElem? (i := 10) rfl) rfl, fun _ => ⟨a_t7 (List.mem_of_getElem? (i := 224) rfl) rfl, a_t7 (List.mem_of_getElem? (i := 225) rfl) rfl, _, rfl, by decide +kernel⟩, fun h => absurd h (by decide), fun h => absurd h (by decide)⟩
theorem a_okC282 : a_okC (12, 396, 1, 235) := ⟨a_m235, rfl, a_t7 (List.mem_of_getElem? (i := 227) rfl) rfl, a_t1 (List.mem_of_getElem? (i := 10) rfl) rfl, fun h => absurd h (by decide), fun _ => a_t7 (List.mem_of_getElem? (i := 228) rfl) rfl, fun h => absurd h (by decide)⟩
theorem a_okC283 : a_okC (12, 399, 0, 236) := ⟨a_m236, rfl, a_t7 (List.mem_of_getElem? (i := 230) rfl) rfl, a_t1 (List.mem_of_getElem? (i := 10) rfl) rfl, fun _ => ⟨a_t7 (List.mem_of_getElem? (i := 232) rfl) rfl, a_mem_p (List.mem_of_getElem? (i := 44) rfl) rfl, _, rfl, by decide +kernel⟩, fun h => absurd h (by decide), fun h => absurd h (by decide)⟩
theorem a_okC284 : a_okC (12, 390, 0, 237) := ⟨a_m237, rfl, a_t7 (List.mem_of_getElem? (i := 234) rfl) rfl, a_t1 (List.mem_of_getElem? (i := 10) rfl) rfl, fun _ => ⟨a_t7 (List.mem_of_getElem? (i := 236) rfl) rfl, a_mem_p (List.mem_of_getElem? (i := 45) rfl) rfl, _, rfl, by decide +kernel⟩, fun h => absurd h (by decide), fun h => absurd h (by decide)⟩
theorem a_okC285 : a_okC (12, 405, 0, 238) := ⟨a_m238, rfl, a_t7 (List.mem_of_getElem? (i := 238) rfl) rfl, a_t1 (List.mem_of_getElem? (i := 10) rfl) rfl, fun _ => ⟨a_t8 (List.mem_of_getElem? (i := 0) rfl) rfl, a_mem_p (List.mem_of_getElem? (i := 46) rfl) rfl, _, rfl, by decide +kernel⟩, fun h => absurd h (by decide), fun h => absurd h (by decide)⟩
theorem a_okC286 : a_okC (12, 393, 0, 239) := ⟨a_m239, rfl, a_t8 (List.mem_of_getElem? (i := 2) rfl) rfl, a_t1 (List.mem_of_getElem? (i := 10) rfl) rfl, fun _ => ⟨a_t8 (List.mem_of_getElem? (i := 4) rfl) rfl, a_mem_p (List.mem_of_getElem? (i := 47) rfl) rfl, _, rfl, by decide +kernel⟩, fun h => absurd h (by decide), fun h => absurd h (by decide)⟩
theorem a_okC287 : a_okC (13, 112, 0, 240) := ⟨a_m240, rfl, a_t8 (List.mem_of_getElem? (i := 6) rfl) rfl, a_t1 (List.mem_of_getElem? (i := 10) rfl) rfl, fun _ => ⟨a_t8 (List.mem_of_getElem? (i := 7) rfl) rfl, a_t8 (List.mem_of_getElem? (i := 8) rfl) rfl, _, rfl, by decide +kernel⟩, fun h => absurd h (by decide), fun h => absurd h (by decide)⟩
theorem a_okC288 : a_okC (13, 117, 0, 241) := ⟨a_m241, rfl, a_t8 (List.mem_of_getElem? (i := 10) rfl) rfl, a_t1 (List.mem_of_getElem? (i := 10) rfl) rfl, fun _ => ⟨a_t8 (List.mem_of_getElem? (i := 11) rfl) rfl, a_t8 (List.mem_of_getElem? (i := 12) rfl) rfl, _, rfl, by decide +kernel⟩, fun h => absurd h (by decide), fun h => absurd h (by decide)⟩
theorem a_okC289 : a_okC (13, 121, 0, 242) := ⟨a_m242, rfl, a_t8 (List.mem_of_getElem? (i := 14) rfl) rfl, a_t1 (List.mem_of_getElem? (i := 10) rfl) rfl, fun _ => ⟨a_t8 (List.mem_of_getElem? (i := 15) rfl) rfl, a_t8 (List.mem_of_getElem? (i := 16) rfl) rfl, _, rfl, by decide +kernel⟩, fun h => absurd h (by decide), fun h => absurd h (by decide)⟩
theorem a_okC290 : a_okC (12, 415, 0, 243) := ⟨a_m243, rfl, a_t8 (List.mem_of_getElem? (i := 18) rfl) rfl, a_t1 (List.mem_of_getElem? (i := 10) rfl) rfl, fun _ => ⟨a_t8 (List.mem_of_getElem? (i := 20) rfl) rfl, a_mem_p (List.mem_of_getElem? (i := 48) rfl) rfl, _, rfl, by decide +kernel⟩, fun h => absurd h (by decide), fun h => absurd h (by decide)⟩
theorem a_okC291 : a_okC (12, 412, 0, 244) := ⟨a_m244, rfl, a_t8 (List.mem_of_getElem? (i := 22) rfl) rfl, a_t1 (List.mem_of_getElem? (i := 10) rfl) rfl, fun _ => ⟨a_t8 (List.mem_of_getElem? (i := 24) rfl) rfl, a_mem_p (List.mem_of_getElem? (i := 49) rfl) rfl, _, rfl, by decide +kernel⟩, fun h => absurd h (by decide), fun h => absurd h (by decide)⟩
theorem a_okC292 : a_okC (13, 125, 0, 245) := ⟨a_m245, rfl, a_t8 (List.mem_of_getElem? (i := 26) rfl) rfl, a_t1 (List.mem_of_getElem? (i := 10) rfl) rfl, fun _ => ⟨a_t8 (List.mem_of_getElem? (i := 27) rfl) rfl, a_t8 (List.mem_of_getElem? (i := 28) rfl) rfl, _, rfl, by decide +kernel⟩, fun h => absurd h (by decide), fun h => absurd h (by decide)⟩
theorem a_okC293 : a_okC (13, 129, 0, 246) := ⟨a_m246, rfl, a_t8 (List.mem_of_getElem? (i := 30) rfl) rfl, a_t1 (List.mem_of_getElem? (i := 10) rfl) rfl, fun _ => ⟨a_t8 (List.mem_of_getElem? (i := 31) rfl) rfl, a_t8 (List.mem_of_getElem? (i := 32) rfl) rfl, _, rfl, by decide +kernel⟩, fun h => absurd h (by decide), fun h => absurd h (by decide)⟩
theorem a_okC294 : a_okC (13, 134, 0, 247) := ⟨a_m247, rfl, a_t8 (List.mem_of_getElem? (i := 34) rfl) rfl, a_t1 (List.mem_of_getElem? (i := 10) rfl) rfl, fun _ => ⟨a_t8 (List.mem_of_getElem? (i := 35) rfl) rfl, a_t8 (List.mem_of_getElem? (i := 36) rfl) rfl, _, rfl, by decide +kernel⟩, fun h => absurd h (by decide), fun h => absurd h (by decide)⟩
theorem a_okC295 : a_okC (12, 418, 0, 248) := ⟨a_m248, rfl, a_t8 (List.mem_of_getElem? (i := 38) rfl) rfl, a_t1 (List.mem_of_getElem? (i := 10) rfl) rfl, fun _ => ⟨a_t8 (List.mem_of_getElem? (i := 40) rfl) rfl, a_mem_p (List.mem_of_getElem? (i := 50) rfl) rfl, _, rfl, by decide +kernel⟩, fun h => absurd h (by decide), fun h => absurd h (by decide)⟩
theorem a_okC296 : a_okC (13, 138, 0, 249) := ⟨a_m249, rfl, a_t8 (List.mem_of_getElem? (i := 42) rfl) rfl, a_t1 (List.mem_of_getElem? (i := 10) rfl) rfl, fun _ => ⟨a_t8 (List.mem_of_getElem? (i := 43) rfl) rfl, a_t8 (List.mem_of_getElem? (i := 44) rfl) rfl, _, rfl, by decide +kernel⟩, fun h => absurd h (by decide), fun h => absurd h (by decide)⟩
theorem a_okC297 : a_okC (13, 143, 0, 250) := ⟨a_m250, rfl, a_t8 (List.mem_of_getElem? (i := 46) rfl) rfl, a_t1 (List.mem_of_getElem? (i := 10) rfl) rfl, fun _ => ⟨a_t8 (List.mem_of_getElem? (i := 47) rfl) rfl, a_t8 (List.mem_of_getElem? (i := 48) rfl) rfl, _, rfl, by decide +kernel⟩, fun h => absurd h (by decide), fun h => absurd h (by decide)⟩
theorem a_okC298 : a_okC (13, 147, 0, 251) := ⟨a_m251, rfl, a_t8 (List.mem_of_getElem? (i := 50) rfl) rfl, a_t1 (List.mem_of_getElem? (i := 10) rfl) rfl, fun _ => ⟨a_t8 (List.mem_of_getElem? (i := 51) rfl) rfl, a_t8 (List.mem_of_getElem? (i := 52) rfl) rfl, _, rfl, by decide +kernel⟩, fun h => absurd h (by decide), fun h => absurd h (by decide)⟩
theorem a_okC299 : a_okC (12, 430, 0, 252) := ⟨a_m252, rfl, a_t8 (List.mem_of_getElem? (i := 54) rfl) rfl, a_t1 (List.mem_of_getElem? (i := 10) rfl) rfl, fun _ => ⟨a_t8 (List.mem_of_getElem? (i := 56) rfl) rfl, a_mem_p (List.mem_of_getElem? (i := 51) rfl) rfl, _, rfl, by decide +kernel⟩, fun h => absurd h (by decide), fun h => absurd h (by decide)⟩
theorem a_okC300 : a_okC (12, 421, 0, 253) := ⟨a_m253, rfl, a_t8 (List.mem_of_getElem? (i := 58) rfl) rfl, a_t1 (List.mem_of_getElem? (i := 10) rfl) rfl, fun _ => ⟨a_t8 (List.mem_of_getElem? (i := 60) rfl) rfl, a_mem_p (List.mem_of_getElem? (i := 52) rfl) rfl, _, rfl, by decide +kernel⟩, fun h => absurd h (by decide), fun h => absurd h (by decide)⟩
theorem a_okC301 : a_okC (12, 424, 0, 254) := ⟨a_m254, rfl, a_t8 (List.mem_of_getElem? (i := 62) rfl) rfl, a_t1 (List.mem_of_getElem? (i := 10) rfl) rfl, fun _ => ⟨a_t8 (List.mem_of_getElem? (i := 64) rfl) rfl, a_mem_p (List.mem_of_getElem? (i := 53) rfl) rfl, _, rfl, by decide +kernel⟩, fun h => absurd h (by decide), fun h => absurd h (by decide)⟩
theorem a_okC302 : a_okC (13, 151, 0, 255) := ⟨a_m255, rfl, a_t8 (List.mem_of_getElem? (i := 66) rfl) rfl, a_t1 (List.mem_of_getElem? (i := 10) rfl) rfl, fun _ => ⟨a_t8 (List.mem_of_getElem? (i := 67) rfl) rfl, a_t8 (List.mem_of_getElem? (i := 68) rfl) rfl, _, rfl, by decide +kernel⟩, fun h => absurd h (by decide), fun h => absurd h (by decide)⟩
theorem a_okC303 : a_okC (13, 155, 0, 256) := ⟨a_m256, rfl, a_t8 (List.mem_of_getElem? (i := 70) rfl) rfl, a_t1 (List.mem_of_getElem? (i := 10) rfl) rfl, fun _ => ⟨a_t8 (List.mem_of_getElem? (i := 71) rfl) rfl, a_t8 (List.mem_of_getElem? (i := 72) rfl) rfl, _, rfl, by decide +kernel⟩, fun h => absurd h (by decide), fun h => absurd h (by decide)⟩
theorem a_okC304 : a_okC (12, 433, 0, 257) := ⟨a_m257, rfl, a_t8 (List.mem_of_getElem? (i := 74) rfl) rfl, a_t1 (List.mem_of_getElem? (i := 10) rfl) rfl, fun _ => ⟨a_t8 (List.mem_of_getElem? (i := 76) rfl) rfl, a_mem_p (List.mem_of_getElem? (i := 54) rfl) rfl, _, rfl, by decide +kernel⟩, fun h => absurd h (by decide), fun h => absurd h (by decide)⟩
theorem a_okC305 : a_okC (13, 159, 0, 258) := ⟨a_m258, rfl, a_t8 (List.mem_of_getElem? (i := 78) rfl) rfl, a_t1 (List.mem_of_getElem? (i := 10) rfl) rfl, fun _ => ⟨a_t8 (List.mem_of_getElem? (i := 79) rfl) rfl, a_t8 (List.mem_of_getElem? (i := 80) rfl) rfl, _, rfl, by decide +kernel⟩, fun h => absurd h (by decide), fun h => absurd h (by decide)⟩
theorem a_okC306 : a_okC (13, 163, 0, 259) := ⟨a_m259, rfl, a_t8 (List.mem_of_getElem? (i := 82) rfl) rfl, a_t1 (List.mem_of_getElem? (i := 10) rfl) rfl, fun _ => ⟨a_t8 (List.mem_of_getElem? (i := 83) rfl) rfl, a_t8 (List.mem_of_getElem? (i := 84) rfl) rfl, _, rfl, by decide +kernel⟩, fun h => absurd h (by decide), fun h => absurd h (by decide)⟩
theorem a_okC307 : a_okC (13, 167, 0, 260) := ⟨a_m260, rfl, a_t8 (List.mem_of_getElem? (i := 86) rfl) rfl, a_t1 (List.mem_of_getElem? (i := 10) rfl) rfl, fun _ => ⟨a_t8 (List.mem_of_getElem? (i := 87) rfl) rfl, a_t8 (List.mem_of_getElem? (i := 88) rfl) rfl, _, rfl, by decide +kernel⟩, fun h => absurd h (by decide), fun h => absurd h (by decide)⟩
theorem a_okC308 : a_okC (13, 171, 0, 261) := ⟨a_m261, rfl, a_t8 (List.mem_of_getElem? (i := 90) rfl) rfl, a_t1 (List.mem_of_getElem? (i := 10) rfl) rfl, fun _ => ⟨a_t8 (List.mem_of_getElem? (i := 91) rfl) rfl, a_t8 (List.mem_of_getElem? (i := 92) rfl) rfl, _, rfl, by decide +kernel⟩, fun h => absurd h (by decide), fun h => absurd h (by decide)⟩
set_option maxRecDepth 100000 in
theorem a_cl_ok : ∀ q ∈ a_cl, a_okC q := List.forall_mem_cons.mpr ⟨a_okC0, List.forall_mem_cons.mpr ⟨a_okC1, List.forall_mem_cons.mpr ⟨a_okC2, List.forall_mem_cons.mpr ⟨a_okC3, List.forall_mem_cons.mpr ⟨a_okC4, List.forall_mem_cons.mpr ⟨a_okC5, List.forall_mem_cons.mpr ⟨a_okC6, List.forall_mem_cons.mpr ⟨a_okC7, List.forall_mem_cons.mpr ⟨a_okC8, List.forall_mem_cons.mpr ⟨a_okC9, List.forall_mem_cons.mpr ⟨a_okC10, List.forall_mem_cons.mpr ⟨a_okC11, List.forall_mem_cons.mpr ⟨a_okC12, List.forall_mem_cons.mpr ⟨a_okC13, List.forall_mem_cons.mpr ⟨a_okC14, List.forall_mem_cons.mpr ⟨a_okC15, List.forall_mem_cons.mpr ⟨a_okC16, List.forall_mem_cons.mpr ⟨a_okC17, List.forall_mem_cons.mpr ⟨a_okC18, List.forall_mem_cons.mpr ⟨a_okC19, List.forall_mem_cons.mpr ⟨a_okC20, List.forall_mem_cons.mpr ⟨a_okC21, List.forall_mem_cons.mpr ⟨a_okC22, List.forall_mem_cons.mpr ⟨a_okC23, List.forall_mem_cons.mpr ⟨a_okC24, List.forall_mem_cons.mpr ⟨a_okC25, List.forall_mem_cons.mpr ⟨a_okC26, List.forall_mem_cons.mpr ⟨a_okC27, List.forall_mem_cons.mpr ⟨a_okC28, List.forall_mem_cons.mpr ⟨a_okC29, List.forall_mem_cons.mpr ⟨a_okC30, List.forall_mem_cons.mpr ⟨a_okC31, List.forall_mem_cons.mpr ⟨a_okC32, List.forall_mem_cons.mpr ⟨a_okC33, List.forall_mem_cons.mpr ⟨a_okC34, List.forall_mem_cons.mpr ⟨a_okC35, List.forall_mem_cons.mpr ⟨a_okC36, List.forall_mem_cons.mpr ⟨a_okC37, List.forall_mem_cons.mpr ⟨a_okC38, List.forall_mem_cons.mpr ⟨a_okC39, List.forall_mem_cons.mpr ⟨a_okC40, List.forall_mem_cons.mpr ⟨a_okC41, List.forall_mem_cons.mpr ⟨a_okC42, List.forall_mem_cons.mpr ⟨a_okC43, List.forall_mem_cons.mpr ⟨a_okC44, List.forall_mem_cons.mpr ⟨a_okC45, List.forall_mem_cons.mpr ⟨a_okC46, List.forall_mem_cons.mpr ⟨a_okC47, List.forall_mem_cons.mpr ⟨a_okC48, List.forall_mem_cons.mpr ⟨a_okC49, List.forall_mem_cons.mpr ⟨a_okC50, List.forall_mem_cons.mpr ⟨a_okC51, List.forall_mem_cons.mpr ⟨a_okC52, List.forall_mem_cons.mpr ⟨a_okC53, List.forall_mem_cons.mpr ⟨a_okC54, List.forall_mem_cons.mpr ⟨a_okC55, List.forall_mem_cons.mpr ⟨a_okC56, List.forall_mem_cons.mpr ⟨a_okC57, List.forall_mem_cons.mpr ⟨a_okC58, List.forall_mem_cons.mpr ⟨a_okC59, List.forall_mem_cons.mpr ⟨a_okC60, List.forall_mem_cons.mpr ⟨a_okC61, List.forall_mem_cons.mpr ⟨a_okC62, List.forall_mem_cons.mpr ⟨a_okC63, List.forall_mem_cons.mpr ⟨a_okC64, List.forall_mem_cons.mpr ⟨a_okC65, List.forall_mem_cons.mpr ⟨a_okC66, List.forall_mem_cons.mpr ⟨a_okC67, List.forall_mem_cons.mpr ⟨a_okC68, List.forall_mem_cons.mpr ⟨a_okC69, List.forall_mem_cons.mpr ⟨a_okC70, List.forall_mem_cons.mpr ⟨a_okC71, List.forall_mem_cons.mpr ⟨a_okC72, List.forall_mem_cons.mpr ⟨a_okC73, List.forall_mem_cons.mpr ⟨a_okC74, List.forall_mem_cons.mpr ⟨a_okC75, List.forall_mem_cons.mpr ⟨a_okC76, List.forall_mem_cons.mpr ⟨a_okC77, List.forall_mem_cons.mpr ⟨a_okC78, List.forall_mem_cons.mpr ⟨a_okC79, List.forall_mem_cons.mpr ⟨a_okC80, List.forall_mem_cons.mpr ⟨a_okC81, List.forall_mem_cons.mpr ⟨a_okC82, List.forall_mem_cons.mpr ⟨a_okC83, List.forall_mem_cons.mpr ⟨a_okC84, List.forall_mem_cons.mpr ⟨a_okC85, List.forall_mem_cons.mpr ⟨a_okC86, List.forall_mem_cons.mpr ⟨a_okC87, List.forall_mem_cons.mpr ⟨a_okC88, List.forall_mem_cons.mpr ⟨a_okC89, List.forall_mem_cons.mpr ⟨a_okC90, List.forall_mem_cons.mpr ⟨a_okC91, List.forall_mem_cons.mpr ⟨a_okC92, List.forall_mem_cons.mpr ⟨a_okC93, List.forall_mem_cons.mpr ⟨a_okC94, List.forall_mem_cons.mpr ⟨a_okC95, List.forall_mem_cons.mpr ⟨a_okC96, List.forall_mem_cons.mpr ⟨a_okC97, List.forall_mem_cons.mpr ⟨a_okC98, List.forall_mem_cons.mpr ⟨a_okC99, List.forall_mem_cons.mpr ⟨a_okC100, List.forall_mem_cons.mpr ⟨a_okC101, List.forall_mem_cons.mpr ⟨a_okC102, List.forall_mem_cons.mpr ⟨a_okC103, List.forall_mem_cons.mpr ⟨a_okC104, List.forall_mem_cons.mpr ⟨a_okC105, List.forall_mem_cons.mpr ⟨a_okC106, List.forall_mem_cons.mpr ⟨a_okC107, List.forall_mem_cons.mpr ⟨a_okC108, List.forall_mem_cons.mpr ⟨a_okC109, List.forall_mem_cons.mpr ⟨a_okC110, List.forall_mem_cons.mpr ⟨a_okC111, List.forall_mem_cons.mpr ⟨a_okC112, List.forall_mem_cons.mpr ⟨a_okC113, List.forall_mem_cons.mpr ⟨a_okC114, List.forall_mem_cons.mpr ⟨a_okC115, List.forall_mem_cons.mpr ⟨a_okC116, List.forall_mem_cons.mpr ⟨a_okC117, List.forall_mem_cons.mpr ⟨a_okC118, List.forall_mem_cons.mpr ⟨a_okC119, List.forall_mem_cons.mpr ⟨a_okC120, List.forall_mem_cons.mpr ⟨a_okC121, List.forall_mem_cons.mpr ⟨a_okC122, List.forall_mem_cons.mpr ⟨a_okC123, List.forall_mem_cons.mpr ⟨a_okC124, List.forall_mem_cons.mpr ⟨a_okC125, List.forall_mem_cons.mpr ⟨a_okC126, List.forall_mem_cons.mpr ⟨a_okC127, List.forall_mem_cons.mpr ⟨a_okC128, List.forall_mem_cons.mpr ⟨a_okC129, List.forall_mem_cons.mpr ⟨a_okC130, List.forall_mem_cons.mpr ⟨a_okC131, List.forall_mem_cons.mpr ⟨a_okC132, List.forall_mem_cons.mpr ⟨a_okC133, List.forall_mem_cons.mpr ⟨a_okC134, List.forall_mem_cons.mpr ⟨a_okC135, List.forall_mem_cons.mpr ⟨a_okC136, List.forall_mem_cons.mpr ⟨a_okC137, List.forall_mem_cons.mpr ⟨a_okC138, List.forall_mem_cons.mpr ⟨a_okC139, List.forall_mem_cons.mpr ⟨a_okC140, List.forall_mem_cons.mpr ⟨a_okC141, List.forall_mem_cons.mpr ⟨a_okC142, List.forall_mem_cons.mpr ⟨a_okC143, List.forall_mem_cons.mpr ⟨a_okC144, List.forall_mem_cons.mpr ⟨a_okC145, List.forall_mem_cons.mpr ⟨a_okC146, List.forall_mem_cons.mpr ⟨a_okC147, List.forall_mem_cons.mpr ⟨a_okC148, List.forall_mem_cons.mpr ⟨a_okC149, List.forall_mem_cons.mpr ⟨a_okC150, List.forall_mem_cons.mpr ⟨a_okC151, List.forall_mem_cons.mpr ⟨a_okC152, List.forall_mem_cons.mpr ⟨a_okC153, List.forall_mem_cons.mpr ⟨a_okC154, List.forall_mem_cons.mpr ⟨a_okC155, List.forall_mem_cons.mpr ⟨a_okC156, List.forall_mem_cons.mpr ⟨a_okC157, List.forall_mem_cons.mpr ⟨a_okC158, List.forall_mem_cons.mpr ⟨a_okC159, List.forall_mem_cons.mpr ⟨a_okC160, List.forall_mem_cons.mpr ⟨a_okC161, List.forall_mem_cons.mpr ⟨a_okC162, List.forall_mem_cons.mpr ⟨a_okC163, List.forall_mem_cons.mpr ⟨a_okC164, List.forall_mem_cons.mpr ⟨a_okC165, List.forall_mem_cons.mpr ⟨a_okC166, List.forall_mem_cons.mpr ⟨a_okC167, List.forall_mem_cons.mpr ⟨a_okC168, List.forall_mem_cons.mpr ⟨a_okC169, List.forall_mem_cons.mpr ⟨a_okC170, List.forall_mem_cons.mpr ⟨a_okC171, List.forall_mem_cons.mpr ⟨a_okC172, List.forall_mem_cons.mpr ⟨a_okC173, List.forall_mem_cons.mpr ⟨a_okC174, List.forall_mem_cons.mpr ⟨a_okC175, List.forall_mem_cons.mpr ⟨a_okC176, List.forall_mem_cons.mpr ⟨a_okC177, List.forall_mem_cons.mpr ⟨a_okC178, List.forall_mem_cons.mpr ⟨a_okC179, List.forall_mem_cons.mpr ⟨a_okC180, List.forall_mem_cons.mpr ⟨a_okC181, List.forall_mem_cons.mpr ⟨a_okC182, List.forall_mem_cons.mpr ⟨a_okC183, List.forall_mem_cons.mpr ⟨a_okC184, List.forall_mem_cons.mpr ⟨a_okC185, List.forall_mem_cons.mpr ⟨a_okC186, List.forall_mem_cons.mpr ⟨a_okC187, List.forall_mem_cons.mpr ⟨a_okC188, List.forall_mem_cons.mpr ⟨a_okC189, List.forall_mem_cons.mpr ⟨a_okC190, List.forall_mem_cons.mpr ⟨a_okC191, List.forall_mem_cons.mpr ⟨a_okC192, List.forall_mem_cons.mpr ⟨a_okC193, List.forall_mem_cons.mpr ⟨a_okC194, List.forall_mem_cons.mpr ⟨a_okC195, List.forall_mem_cons.mpr ⟨a_okC196, List.forall_mem_cons.mpr ⟨a_okC197, List.forall_mem_cons.mpr ⟨a_okC198, List.forall_mem_cons.mpr ⟨a_okC199, List.forall_mem_cons.mpr ⟨a_okC200, List.forall_mem_cons.mpr ⟨a_okC201, List.forall_mem_cons.mpr ⟨a_okC202, List.forall_mem_cons.mpr ⟨a_okC203, List.forall_mem_cons.mpr ⟨a_okC204, List.forall_mem_cons.mpr ⟨a_okC205, List.forall_mem_cons.mpr ⟨a_okC206, List.forall_mem_cons.mpr ⟨a_okC207, List.forall_mem_cons.mpr ⟨a_okC208, List.forall_mem_cons.mpr ⟨a_okC209, List.forall_mem_cons.mpr ⟨a_okC210, List.forall_mem_cons.mpr ⟨a_okC211, List.forall_mem_cons.mpr ⟨a_okC212, List.forall_mem_cons.mpr ⟨a_okC213, List.forall_mem_cons.mpr ⟨a_okC214, List.forall_mem_cons.mpr ⟨a_okC215, List.forall_mem_cons.mpr ⟨a_okC216, List.forall_mem_cons.mpr ⟨a_okC217, List.forall_mem_cons.mpr ⟨a_okC218, List.forall_mem_cons.mpr ⟨a_okC219, List.forall_mem_cons.mpr ⟨a_okC220, List.forall_mem_cons.mpr ⟨a_okC221, List.forall_mem_cons.mpr ⟨a_okC222, List.forall_mem_cons.mpr ⟨a_okC223, List.forall_mem_cons.mpr ⟨a_okC224, List.forall_mem_cons.mpr ⟨a_okC225, List.forall_mem_cons.mpr ⟨a_okC226, List.forall_mem_cons.mpr ⟨a_okC227, List.forall_mem_cons.mpr ⟨a_okC228, List.forall_mem_cons.mpr ⟨a_okC229, List.forall_mem_cons.mpr ⟨a_okC230, List.forall_mem_cons.mpr ⟨a_okC231, List.forall_mem_cons.mpr ⟨a_okC232, List.forall_mem_cons.mpr ⟨a_okC233, List.forall_mem_cons.mpr ⟨a_okC234, List.forall_mem_cons.mpr ⟨a_okC235, List.forall_mem_cons.mpr ⟨a_okC236, List.forall_mem_cons.mpr ⟨a_okC237, List.forall_mem_cons.mpr ⟨a_okC238, List.forall_mem_cons.mpr ⟨a_okC239, List.forall_mem_cons.mpr ⟨a_okC240, List.forall_mem_cons.mpr ⟨a_okC241, List.forall_mem_cons.mpr ⟨a_okC242, List.forall_mem_cons.mpr ⟨a_okC243, List.forall_mem_cons.mpr ⟨a_okC244, List.forall_mem_cons.mpr ⟨a_okC245, List.forall_mem_cons.mpr ⟨a_okC246, List.forall_mem_cons.mpr ⟨a_okC247, List.forall_mem_cons.mpr ⟨a_okC248, List.forall_mem_cons.mpr ⟨a_okC249, List.forall_mem_cons.mpr ⟨a_okC250, List.forall_mem_cons.mpr ⟨a_okC251, List.forall_mem_cons.mpr ⟨a_okC252, List.forall_mem_cons.mpr ⟨a_okC253, List.forall_mem_cons.mpr ⟨a_okC254, List.forall_mem_cons.mpr ⟨a_okC255, List.forall_mem_cons.mpr ⟨a_okC256, List.forall_mem_cons.mpr ⟨a_okC257, List.forall_mem_cons.mpr ⟨a_okC258, List.forall_mem_cons.mpr ⟨a_okC259, List.forall_mem_cons.mpr ⟨a_okC260, List.forall_mem_cons.mpr ⟨a_okC261, List.forall_mem_cons.mpr ⟨a_okC262, List.forall_mem_cons.mpr ⟨a_okC263, List.forall_mem_cons.mpr ⟨a_okC264, List.forall_mem_cons.mpr ⟨a_okC265, List.forall_mem_cons.mpr ⟨a_okC266, List.forall_mem_cons.mpr ⟨a_okC267, List.forall_mem_cons.mpr ⟨a_okC268, List.forall_mem_cons.mpr ⟨a_okC269, List.forall_mem_cons.mpr ⟨a_okC270, List.forall_mem_cons.mpr ⟨a_okC271, List.forall_mem_cons.mpr ⟨a_okC272, List.forall_mem_cons.mpr ⟨a_okC273, List.forall_mem_cons.mpr ⟨a_okC274, List.forall_mem_cons.mpr ⟨a_okC275, List.forall_mem_cons.mpr ⟨a_okC276, List.forall_mem_cons.mpr ⟨a_okC277, List.forall_mem_cons.mpr ⟨a_okC278, List.forall_mem_cons.mpr ⟨a_okC279, List.forall_mem_cons.mpr ⟨a_okC280, List.forall_mem_cons.mpr ⟨a_okC281, List.forall_mem_cons.mpr ⟨a_okC282, List.forall_mem_cons.mpr ⟨a_okC283, List.forall_mem_cons.mpr ⟨a_okC284, List.forall_mem_cons.mpr ⟨a_okC285, List.forall_mem_cons.mpr ⟨a_okC286, List.forall_mem_cons.mpr ⟨a_okC287, List.forall_mem_cons.mpr ⟨a_okC288, List.forall_mem_cons.mpr ⟨a_okC289, List.forall_mem_cons.mpr ⟨a_okC290, List.forall_mem_cons.mpr ⟨a_okC291, List.forall_mem_cons.mpr ⟨a_okC292, List.forall_mem_cons.mpr ⟨a_okC293, List.forall_mem_cons.mpr ⟨a_okC294, List.forall_mem_cons.mpr ⟨a_okC295, List.forall_mem_cons.mpr ⟨a_okC296, List.forall_mem_cons.mpr ⟨a_okC297, List.forall_mem_cons.mpr ⟨a_okC298, List.forall_mem_cons.mpr ⟨a_okC299, List.forall_mem_cons.mpr ⟨a_okC300, List.forall_mem_cons.mpr ⟨a_okC301, List.forall_mem_cons.mpr ⟨a_okC302, List.forall_mem_cons.mpr ⟨a_okC303, List.forall_mem_cons.mpr ⟨a_okC304, List.forall_mem_cons.mpr ⟨a_okC305, List.forall_mem_cons.mpr ⟨a_okC306, List.forall_mem_cons.mpr ⟨a_okC307, List.forall_mem_cons.mpr ⟨a_okC308, fun _ h => absurd h List.not_mem_nil⟩⟩⟩⟩⟩⟩⟩⟩⟩⟩⟩⟩⟩⟩⟩⟩⟩⟩⟩⟩⟩⟩⟩⟩⟩⟩⟩⟩⟩⟩⟩⟩⟩⟩⟩⟩⟩⟩⟩⟩⟩⟩⟩⟩⟩⟩⟩⟩⟩⟩⟩⟩⟩⟩⟩⟩⟩⟩⟩⟩⟩⟩⟩⟩⟩⟩⟩⟩⟩⟩⟩⟩⟩⟩⟩⟩⟩⟩⟩⟩⟩⟩⟩⟩⟩⟩⟩⟩⟩⟩⟩⟩⟩⟩⟩⟩⟩⟩⟩⟩⟩⟩⟩⟩⟩⟩⟩⟩⟩⟩⟩⟩⟩⟩⟩⟩⟩⟩⟩⟩⟩⟩⟩⟩⟩⟩⟩⟩⟩⟩⟩⟩⟩⟩⟩⟩⟩⟩⟩⟩⟩⟩⟩⟩⟩⟩⟩⟩⟩⟩⟩⟩⟩⟩⟩⟩⟩⟩⟩⟩⟩⟩⟩⟩⟩⟩⟩⟩⟩⟩⟩⟩⟩⟩⟩⟩⟩⟩⟩⟩⟩⟩⟩⟩⟩⟩⟩⟩⟩⟩⟩⟩⟩⟩⟩⟩⟩⟩⟩⟩⟩⟩⟩⟩⟩⟩⟩⟩⟩⟩⟩⟩⟩⟩⟩⟩⟩⟩⟩⟩⟩⟩⟩⟩⟩⟩⟩⟩⟩⟩⟩⟩⟩⟩⟩⟩⟩⟩⟩⟩⟩⟩⟩⟩⟩⟩⟩⟩⟩⟩⟩⟩⟩⟩⟩⟩⟩⟩⟩⟩⟩⟩⟩⟩⟩⟩⟩⟩⟩⟩⟩⟩⟩⟩⟩⟩⟩⟩⟩⟩⟩⟩⟩⟩⟩⟩⟩⟩⟩⟩⟩⟩⟩⟩⟩⟩⟩⟩⟩⟩⟩⟩⟩⟩⟩⟩⟩⟩⟩
/-- owner, entry, method, host: static calls across the nest -/
def a_ns : List (Nat × Nat × Nat × String) := [(5, 132, 13, "BeamHall"), (5, 52, 130, "BeamHall"), (3, 53, 130, "BeamHall"), (4, 65, 130, "BeamHall")]
def a_okS (q : Nat × Nat × Nat × String) : Prop := ∃ r, a_ms[q.2.2.1]? = some r ∧ Jvm.Cond.static r.2.1 ∈ a_tb ∧ Jvm.Cond.initialized r.2.1.cls ∈ a_tb ∧ Jvm.Cond.methodLinkNest (a_own q.1) q.2.1 r.2.1 q.2.2.2 ∈ lw_tbl
theorem a_okS0 : a_okS (5, 132, 13, "BeamHall") := ⟨a_m13, rfl, a_t2 (List.mem_of_getElem? (i := 92) rfl) rfl, a_t1 (List.mem_of_getElem? (i := 1) rfl) rfl, List.mem_append_right _ (show _ ∈ tables_1 from a_seg3 (List.mem_of_getElem? (i := 139) rfl))⟩
theorem a_okS1 : a_okS (5, 52, 130, "BeamHall") := ⟨a_m130, rfl, a_t5 (List.mem_of_getElem? (i := 14) rfl) rfl, a_t1 (List.mem_of_getElem? (i := 1) rfl) rfl, List.mem_append_right _ (show _ ∈ tables_1 from a_seg5 (List.mem_of_getElem? (i := 21) rfl))⟩
theorem a_okS2 : a_okS (3, 53, 130, "BeamHall") := ⟨a_m130, rfl, a_t5 (List.mem_of_getElem? (i := 14) rfl) rfl, a_t1 (List.mem_of_getElem? (i := 1) rfl) rfl, List.mem_append_right _ (show _ ∈ tables_1 from a_seg5 (List.mem_of_getElem? (i := 27) rfl))⟩
theorem a_okS3 : a_okS (4, 65, 130, "BeamHall") := ⟨a_m130, rfl, a_t5 (List.mem_of_getElem? (i := 14) rfl) rfl, a_t1 (List.mem_of_getElem? (i := 1) rfl) rfl, List.mem_append_right _ (show _ ∈ tables_1 from a_seg5 (List.mem_of_getElem? (i := 120) rfl))⟩
set_option maxRecDepth 100000 in
theorem a_ns_ok : ∀ q ∈ a_ns, a_okS q := List.forall_mem_cons.mpr ⟨a_okS0, List.forall_mem_cons.mpr ⟨a_okS1, List.forall_mem_cons.mpr ⟨a_okS2, List.forall_mem_cons.mpr ⟨a_okS3, fun _ h => absurd h List.not_mem_nil⟩⟩⟩⟩
def a_ob : List (Nat × Nat) := [(11, 3), (1, 3), (8, 3), (9, 3), (5, 3), (6, 3), (7, 3), (3, 3), (4, 3), (2, 3), (0, 3), (10, 3), (12, 1)]
def a_okO (q : Nat × Nat) : Prop := Jvm.Cond.methodLink (a_own q.1) q.2 Lib.objectInit ∈ a_tb
theorem a_okO0 : a_okO (11, 3) := a_t1 (List.mem_of_getElem? (i := 22) rfl) rfl
theorem a_okO1 : a_okO (1, 3) := a_t1 (List.mem_of_getElem? (i := 30) rfl) rfl
theorem a_okO2 : a_okO (8, 3) := a_t1 (List.mem_of_getElem? (i := 66) rfl) rfl
theorem a_okO3 : a_okO (9, 3) := a_t1 (List.mem_of_getElem? (i := 88) rfl) rfl
theorem a_okO4 : a_okO (5, 3) := a_t1 (List.mem_of_getElem? (i := 112) rfl) rfl
theorem a_okO5 : a_okO (6, 3) := a_t1 (List.mem_of_getElem? (i := 152) rfl) rfl
theorem a_okO6 : a_okO (7, 3) := a_t1 (List.mem_of_getElem? (i := 177) rfl) rfl
theorem a_okO7 : a_okO (3, 3) := a_t1 (List.mem_of_getElem? (i := 213) rfl) rfl
theorem a_okO8 : a_okO (4, 3) := a_t2 (List.mem_of_getElem? (i := 12) rfl) rfl
theorem a_okO9 : a_okO (2, 3) := a_t2 (List.mem_of_getElem? (i := 130) rfl) rfl
theorem a_okO10 : a_okO (0, 3) := a_t2 (List.mem_of_getElem? (i := 217) rfl) rfl
theorem a_okO11 : a_okO (10, 3) := a_t4 (List.mem_of_getElem? (i := 32) rfl) rfl
theorem a_okO12 : a_okO (12, 1) := a_t5 (List.mem_of_getElem? (i := 204) rfl) rfl
set_option maxRecDepth 100000 in
theorem a_ob_ok : ∀ q ∈ a_ob, a_okO q := List.forall_mem_cons.mpr ⟨a_okO0, List.forall_mem_cons.mpr ⟨a_okO1, List.forall_mem_cons.mpr ⟨a_okO2, List.forall_mem_cons.mpr ⟨a_okO3, List.forall_mem_cons.mpr ⟨a_okO4, List.forall_mem_cons.mpr ⟨a_okO5, List.forall_mem_cons.mpr ⟨a_okO6, List.forall_mem_cons.mpr ⟨a_okO7, List.forall_mem_cons.mpr ⟨a_okO8, List.forall_mem_cons.mpr ⟨a_okO9, List.forall_mem_cons.mpr ⟨a_okO10, List.forall_mem_cons.mpr ⟨a_okO11, List.forall_mem_cons.mpr ⟨a_okO12, fun _ h => absurd h List.not_mem_nil⟩⟩⟩⟩⟩⟩⟩⟩⟩⟩⟩⟩⟩
theorem a_obj_i : Jvm.Cond.instanceMethod Lib.objectInit ∈ a_tb := a_t1 (List.mem_of_getElem? (i := 23) rfl) rfl
theorem a_obj_c : Jvm.Cond.code Lib.objectInit ⟨#[0xb1]⟩ 1 none ∈ a_tb := a_t1 (List.mem_of_getElem? (i := 24) rfl) rfl
def a_cp : List (Nat × Nat) := [(2, 50), (9, 27), (3, 112)]
def a_okP (q : Nat × Nat) : Prop := Jvm.Cond.methodLink (a_own q.1) q.2 arraycopyName ∈ a_tb
theorem a_okP0 : a_okP (2, 50) := a_t3 (List.mem_of_getElem? (i := 123) rfl) rfl
theorem a_okP1 : a_okP (9, 27) := a_t4 (List.mem_of_getElem? (i := 23) rfl) rfl
theorem a_okP2 : a_okP (3, 112) := a_t5 (List.mem_of_getElem? (i := 55) rfl) rfl
set_option maxRecDepth 100000 in
theorem a_cp_ok : ∀ q ∈ a_cp, a_okP q := List.forall_mem_cons.mpr ⟨a_okP0, List.forall_mem_cons.mpr ⟨a_okP1, List.forall_mem_cons.mpr ⟨a_okP2, fun _ h => absurd h List.not_mem_nil⟩⟩⟩
theorem a_cp_n : Jvm.Cond.native arraycopyName ∈ a_tb := a_t3 (List.mem_of_getElem? (i := 125) rfl) rfl
theorem a_cp_s : Jvm.Cond.static arraycopyName ∈ a_tb := a_t3 (List.mem_of_getElem? (i := 124) rfl) rfl
theorem a_cp_i : Jvm.Cond.initialized "java/lang/System" ∈ a_tb := a_t1 (List.mem_of_getElem? (i := 14) rfl) rfl
/-- owner, entry, what it names -/
def a_nw : List (Nat × Nat × Nat) := [(13, 7, 11), (11, 9, 1), (11, 16, 8), (8, 9, 10), (11, 23, 9), (11, 30, 5), (5, 19, 0), (5, 25, 2), (11, 39, 6), (11, 48, 7), (7, 19, 0), (11, 57, 3), (3, 15, 0), (11, 64, 4), (4, 22, 0), (11, 126, 0), (0, 10, 0), (13, 10, 12)]
def a_okN (q : Nat × Nat × Nat) : Prop := ∃ r, vwCl[q.2.2]? = some r ∧ Jvm.Cond.classLink (a_own q.1) q.2.1 r.1 ∈ a_tb ∧ Jvm.Cond.instantiable r.1 r.2.2 ∈ a_tb ∧ Jvm.Cond.initialized r.1 ∈ a_tb
theorem a_okN0 : a_okN (13, 7, 11) := ⟨_, rfl, a_t1 (List.mem_of_getElem? (i := 17) rfl) rfl, a_t1 (List.mem_of_getElem? (i := 18) rfl) rfl, a_t1 (List.mem_of_getElem? (i := 1) rfl) rfl⟩
theorem a_okN1 : a_okN (11, 9, 1) := ⟨_, rfl, a_t1 (List.mem_of_getElem? (i := 25) rfl) rfl, a_t1 (List.mem_of_getElem? (i := 26) rfl) rfl, a_t1 (List.mem_of_getElem? (i := 2) rfl) rfl⟩
theorem a_okN2 : a_okN (11, 16, 8) := ⟨_, rfl, a_t1 (List.mem_of_getElem? (i := 61) rfl) rfl, a_t1 (List.mem_of_getElem? (i := 62) rfl) rfl, a_t1 (List.mem_of_getElem? (i := 3) rfl) rfl⟩
theorem a_okN3 : a_okN (8, 9, 10) := ⟨_, rfl, a_t1 (List.mem_of_getElem? (i := 67) rfl) rfl, a_t4 (List.mem_of_getElem? (i := 28) rfl) rfl, a_t1 (List.mem_of_getElem? (i := 16) rfl) rfl⟩
theorem a_okN4 : a_okN (11, 23, 9) := ⟨_, rfl, a_t1 (List.mem_of_getElem? (i := 83) rfl) rfl, a_t1 (List.mem_of_getElem? (i := 84) rfl) rfl, a_t1 (List.mem_of_getElem? (i := 4) rfl) rfl⟩
theorem a_okN5 : a_okN (11, 30, 5) := ⟨_, rfl, a_t1 (List.mem_of_getElem? (i := 107) rfl) rfl, a_t1 (List.mem_of_getElem? (i := 108) rfl) rfl, a_t1 (List.mem_of_getElem? (i := 5) rfl) rfl⟩
theorem a_okN6 : a_okN (5, 19, 0) := ⟨_, rfl, a_t1 (List.mem_of_getElem? (i := 113) rfl) rfl, a_t2 (List.mem_of_getElem? (i := 213) rfl) rfl, a_t1 (List.mem_of_getElem? (i := 13) rfl) rfl⟩
theorem a_okN7 : a_okN (5, 25, 2) := ⟨_, rfl, a_t1 (List.mem_of_getElem? (i := 115) rfl) rfl, a_t2 (List.mem_of_getElem? (i := 126) rfl) rfl, a_t1 (List.mem_of_getElem? (i := 11) rfl) rfl⟩
theorem a_okN8 : a_okN (11, 39, 6) := ⟨_, rfl, a_t1 (List.mem_of_getElem? (i := 147) rfl) rfl, a_t1 (List.mem_of_getElem? (i := 148) rfl) rfl, a_t1 (List.mem_of_getElem? (i := 6) rfl) rfl⟩
theorem a_okN9 : a_okN (11, 48, 7) := ⟨_, rfl, a_t1 (List.mem_of_getElem? (i := 172) rfl) rfl, a_t1 (List.mem_of_getElem? (i := 173) rfl) rfl, a_t1 (List.mem_of_getElem? (i := 7) rfl) rfl⟩
theorem a_okN10 : a_okN (7, 19, 0) := ⟨_, rfl, a_t1 (List.mem_of_getElem? (i := 178) rfl) rfl, a_t2 (List.mem_of_getElem? (i := 213) rfl) rfl, a_t1 (List.mem_of_getElem? (i := 13) rfl) rfl⟩
theorem a_okN11 : a_okN (11, 57, 3) := ⟨_, rfl, a_t1 (List.mem_of_getElem? (i := 208) rfl) rfl, a_t1 (List.mem_of_getElem? (i := 209) rfl) rfl, a_t1 (List.mem_of_getElem? (i := 8) rfl) rfl⟩
theorem a_okN12 : a_okN (3, 15, 0) := ⟨_, rfl, a_t1 (List.mem_of_getElem? (i := 214) rfl) rfl, a_t2 (List.mem_of_getElem? (i := 213) rfl) rfl, a_t1 (List.mem_of_getElem? (i := 13) rfl) rfl⟩
theorem a_okN13 : a_okN (11, 64, 4) := ⟨_, rfl, a_t2 (List.mem_of_getElem? (i := 7) rfl) rfl, a_t2 (List.mem_of_getElem? (i := 8) rfl) rfl, a_t1 (List.mem_of_getElem? (i := 9) rfl) rfl⟩
theorem a_okN14 : a_okN (4, 22, 0) := ⟨_, rfl, a_t2 (List.mem_of_getElem? (i := 13) rfl) rfl, a_t2 (List.mem_of_getElem? (i := 213) rfl) rfl, a_t1 (List.mem_of_getElem? (i := 13) rfl) rfl⟩
theorem a_okN15 : a_okN (11, 126, 0) := ⟨_, rfl, a_t2 (List.mem_of_getElem? (i := 212) rfl) rfl, a_t2 (List.mem_of_getElem? (i := 213) rfl) rfl, a_t1 (List.mem_of_getElem? (i := 13) rfl) rfl⟩
theorem a_okN16 : a_okN (0, 10, 0) := ⟨_, rfl, a_t5 (List.mem_of_getElem? (i := 74) rfl) rfl, a_t2 (List.mem_of_getElem? (i := 213) rfl) rfl, a_t1 (List.mem_of_getElem? (i := 13) rfl) rfl⟩
theorem a_okN17 : a_okN (13, 10, 12) := ⟨_, rfl, a_t5 (List.mem_of_getElem? (i := 199) rfl) rfl, a_t5 (List.mem_of_getElem? (i := 200) rfl) rfl, a_t1 (List.mem_of_getElem? (i := 10) rfl) rfl⟩
set_option maxRecDepth 100000 in
theorem a_nw_ok : ∀ q ∈ a_nw, a_okN q := List.forall_mem_cons.mpr ⟨a_okN0, List.forall_mem_cons.mpr ⟨a_okN1, List.forall_mem_cons.mpr ⟨a_okN2, List.forall_mem_cons.mpr ⟨a_okN3, List.forall_mem_cons.mpr ⟨a_okN4, List.forall_mem_cons.mpr ⟨a_okN5, List.forall_mem_cons.mpr ⟨a_okN6, List.forall_mem_cons.mpr ⟨a_okN7, List.forall_mem_cons.mpr ⟨a_okN8, List.forall_mem_cons.mpr ⟨a_okN9, List.forall_mem_cons.mpr ⟨a_okN10, List.forall_mem_cons.mpr ⟨a_okN11, List.forall_mem_cons.mpr ⟨a_okN12, List.forall_mem_cons.mpr ⟨a_okN13, List.forall_mem_cons.mpr ⟨a_okN14, List.forall_mem_cons.mpr ⟨a_okN15, List.forall_mem_cons.mpr ⟨a_okN16, List.forall_mem_cons.mpr ⟨a_okN17, fun _ h => absurd h List.not_mem_nil⟩⟩⟩⟩⟩⟩⟩⟩⟩⟩⟩⟩⟩⟩⟩⟩⟩⟩
def a_aks : List Nat := [0, 2, 10]
def a_an : List (Nat × Nat × Nat) := [(8, 9, 10), (5, 19, 0), (5, 25, 2), (7, 19, 0), (3, 15, 0), (4, 22, 0), (11, 126, 0), (0, 10, 0)]
def a_okA (q : Nat × Nat × Nat) : Prop := ∃ r, vwCl[q.2.2]? = some r ∧ Jvm.Cond.classLink (a_own q.1) q.2.1 r.1 ∈ a_tb ∧ q.2.2 ∈ a_aks ∧ a_own q.2.2 = r.1
theorem a_okA0 : a_okA (8, 9, 10) := ⟨_, rfl, a_t1 (List.mem_of_getElem? (i := 67) rfl) rfl, by decide, rfl⟩
theorem a_okA1 : a_okA (5, 19, 0) := ⟨_, rfl, a_t1 (List.mem_of_getElem? (i := 113) rfl) rfl, by decide, rfl⟩
theorem a_okA2 : a_okA (5, 25, 2) := ⟨_, rfl, a_t1 (List.mem_of_getElem? (i := 115) rfl) rfl, by decide, rfl⟩
theorem a_okA3 : a_okA (7, 19, 0) := ⟨_, rfl, a_t1 (List.mem_of_getElem? (i := 178) rfl) rfl, by decide, rfl⟩
theorem a_okA4 : a_okA (3, 15, 0) := ⟨_, rfl, a_t1 (List.mem_of_getElem? (i := 214) rfl) rfl, by decide, rfl⟩
theorem a_okA5 : a_okA (4, 22, 0) := ⟨_, rfl, a_t2 (List.mem_of_getElem? (i := 13) rfl) rfl, by decide, rfl⟩
theorem a_okA6 : a_okA (11, 126, 0) := ⟨_, rfl, a_t2 (List.mem_of_getElem? (i := 212) rfl) rfl, by decide, rfl⟩
theorem a_okA7 : a_okA (0, 10, 0) := ⟨_, rfl, a_t5 (List.mem_of_getElem? (i := 74) rfl) rfl, by decide, rfl⟩
set_option maxRecDepth 100000 in
theorem a_an_ok : ∀ q ∈ a_an, a_okA q := List.forall_mem_cons.mpr ⟨a_okA0, List.forall_mem_cons.mpr ⟨a_okA1, List.forall_mem_cons.mpr ⟨a_okA2, List.forall_mem_cons.mpr ⟨a_okA3, List.forall_mem_cons.mpr ⟨a_okA4, List.forall_mem_cons.mpr ⟨a_okA5, List.forall_mem_cons.mpr ⟨a_okA6, List.forall_mem_cons.mpr ⟨a_okA7, fun _ h => absurd h List.not_mem_nil⟩⟩⟩⟩⟩⟩⟩⟩
def a_ks : List (Nat × Nat × Int32) := [(14, 265, 1431655765), (14, 266, 858993459), (14, 267, 252645135), (11, 267, 1000000000), (5, 47, 1073741824), (12, 87, 84000), (12, 318, 1000000), (12, 175, 1000000000), (12, 349, -1000000)]
def a_okK (q : Nat × Nat × Int32) : Prop := Jvm.Cond.constant (a_own q.1) q.2.1 q.2.2 ∈ a_tb
theorem a_okK0 : a_okK (14, 265, 1431655765) := a_t3 (List.mem_of_getElem? (i := 163) rfl) rfl
theorem a_okK1 : a_okK (14, 266, 858993459) := a_t3 (List.mem_of_getElem? (i := 164) rfl) rfl
theorem a_okK2 : a_okK (14, 267, 252645135) := a_t3 (List.mem_of_getElem? (i := 165) rfl) rfl
theorem a_okK3 : a_okK (11, 267, 1000000000) := a_t4 (List.mem_of_getElem? (i := 109) rfl) rfl
theorem a_okK4 : a_okK (5, 47, 1073741824) := a_t5 (List.mem_of_getElem? (i := 12) rfl) rfl
theorem a_okK5 : a_okK (12, 87, 84000) := a_t5 (List.mem_of_getElem? (i := 205) rfl) rfl
theorem a_okK6 : a_okK (12, 318, 1000000) := a_t7 (List.mem_of_getElem? (i := 114) rfl) rfl
theorem a_okK7 : a_okK (12, 175, 1000000000) := a_t7 (List.mem_of_getElem? (i := 162) rfl) rfl
theorem a_okK8 : a_okK (12, 349, -1000000) := a_t7 (List.mem_of_getElem? (i := 167) rfl) rfl
set_option maxRecDepth 100000 in
theorem a_ks_ok : ∀ q ∈ a_ks, a_okK q := List.forall_mem_cons.mpr ⟨a_okK0, List.forall_mem_cons.mpr ⟨a_okK1, List.forall_mem_cons.mpr ⟨a_okK2, List.forall_mem_cons.mpr ⟨a_okK3, List.forall_mem_cons.mpr ⟨a_okK4, List.forall_mem_cons.mpr ⟨a_okK5, List.forall_mem_cons.mpr ⟨a_okK6, List.forall_mem_cons.mpr ⟨a_okK7, List.forall_mem_cons.mpr ⟨a_okK8, fun _ h => absurd h List.not_mem_nil⟩⟩⟩⟩⟩⟩⟩⟩⟩
def a_kl : List (Nat × Nat × Int64) := [(9, 22, 255), (12, 260, 255), (13, 58, 4294967295)]
def a_okL (q : Nat × Nat × Int64) : Prop := Jvm.Cond.constantLong (a_own q.1) q.2.1 q.2.2 ∈ a_tb
theorem a_okL0 : a_okL (9, 22, 255) := a_t3 (List.mem_of_getElem? (i := 208) rfl) rfl
theorem a_okL1 : a_okL (12, 260, 255) := a_t7 (List.mem_of_getElem? (i := 89) rfl) rfl
theorem a_okL2 : a_okL (13, 58, 4294967295) := a_t8 (List.mem_of_getElem? (i := 94) rfl) rfl
set_option maxRecDepth 100000 in
theorem a_kl_ok : ∀ q ∈ a_kl, a_okL q := List.forall_mem_cons.mpr ⟨a_okL0, List.forall_mem_cons.mpr ⟨a_okL1, List.forall_mem_cons.mpr ⟨a_okL2, fun _ h => absurd h List.not_mem_nil⟩⟩⟩
theorem a_arr_i : Jvm.Cond.arrayClass .int ∈ a_tb := a_t1 (List.mem_of_getElem? (i := 60) rfl) rfl
theorem a_arr_z : Jvm.Cond.arrayClass .boolean ∈ a_tb := a_t6 (List.mem_of_getElem? (i := 207) rfl) rfl
theorem a_aks_ok : ∀ c ∈ a_aks, Jvm.Cond.arrayOver (.object (a_own c)) ∈ lw_tbl := by
  intro c hc
  simp only [a_aks, List.mem_cons, List.not_mem_nil, or_false] at hc
  rcases hc with rfl | rfl | rfl
  · exact List.mem_append_right _ (List.mem_of_getElem? (i := 114) rfl)
  · exact List.mem_append_right _ (List.mem_of_getElem? (i := 116) rfl)
  · exact List.mem_append_right _ (List.mem_of_getElem? (i := 68) rfl)
/-- what the claim's words say of a kind of object -/
def a_okV (c : Nat) (q : vw_C) : Prop := (∀ w ∈ u_ws q.1 q.2.1 q.2.2, w ∈ a_tb) ∧ a_N c = q.2.2 ∧ (∀ a, a < q.2.2 → ∀ b, b < q.2.2 → a ≠ b → (q.2.1 a).2.1 ≠ (q.2.1 b).2.1) ∧ Jvm.Cond.instantiable q.1 q.2.2 ∈ a_tb ∧ a_own c = q.1 ∧ ∃ ty : Nat → FieldType, (∀ k, k < q.2.2 → parseFieldDescriptor (q.2.1 k).2.2.1 = some (ty k)) ∧ (∀ k, k < q.2.2 → (q.2.1 k).1 = q.1 ∧ (q.2.1 k).2.2.2 = a_fin c k ∧ ((a_fty c k = 0 ∧ ty k = .int) ∨ (a_fty c k = 1 ∧ ty k = .boolean) ∨ (a_fty c k = 2 ∧ ((∃ n, ty k = .object n) ∨ ∃ t, ty k = .array t))))
set_option maxRecDepth 100000 in
theorem a_inV0 : ∀ w ∈ u_ws RX0 TX0 17, w ∈ a_tb := by
  intro w hw
  obtain ⟨k, hk, rfl⟩ := List.mem_map.mp hw
  have hk := List.mem_range.mp hk
  match k, hk with
  | 0, _ => exact a_t3 (List.mem_of_getElem? (i := 45) rfl) rfl
  | 1, _ => exact a_t3 (List.mem_of_getElem? (i := 47) rfl) rfl
  | 2, _ => exact a_t3 (List.mem_of_getElem? (i := 49) rfl) rfl
  | 3, _ => exact a_t3 (List.mem_of_getElem? (i := 51) rfl) rfl
  | 4, _ => exact a_t3 (List.mem_of_getElem? (i := 53) rfl) rfl
  | 5, _ => exact a_t3 (List.mem_of_getElem? (i := 55) rfl) rfl
  | 6, _ => exact a_t3 (List.mem_of_getElem? (i := 57) rfl) rfl
  | 7, _ => exact a_t3 (List.mem_of_getElem? (i := 59) rfl) rfl
  | 8, _ => exact a_t3 (List.mem_of_getElem? (i := 61) rfl) rfl
  | 9, _ => exact a_t3 (List.mem_of_getElem? (i := 63) rfl) rfl
  | 10, _ => exact a_t3 (List.mem_of_getElem? (i := 65) rfl) rfl
  | 11, _ => exact a_t3 (List.mem_of_getElem? (i := 67) rfl) rfl
  | 12, _ => exact a_t3 (List.mem_of_getElem? (i := 69) rfl) rfl
  | 13, _ => exact a_t3 (List.mem_of_getElem? (i := 71) rfl) rfl
  | 14, _ => exact a_t3 (List.mem_of_getElem? (i := 73) rfl) rfl
  | 15, _ => exact a_t3 (List.mem_of_getElem? (i := 75) rfl) rfl
  | 16, _ => exact a_t3 (List.mem_of_getElem? (i := 77) rfl) rfl
  | k + 17, h => exact absurd (show k + 17 < 17 from h) (by omega)
theorem a_okV0 : a_okV 0 (RX0, TX0, 17) := ⟨a_inV0, by decide +kernel, by decide +kernel, a_t2 (List.mem_of_getElem? (i := 213) rfl) rfl, rfl, tyX0, tyX0_ok, fun k hk => by
  match k, hk with
  | 0, _ => exact ⟨rfl, rfl, Or.inl ⟨rfl, rfl⟩⟩
  | 1, _ => exact ⟨rfl, rfl, Or.inl ⟨rfl, rfl⟩⟩
  | 2, _ => exact ⟨rfl, rfl, Or.inl ⟨rfl, rfl⟩⟩
  | 3, _ => exact ⟨rfl, rfl, Or.inl ⟨rfl, rfl⟩⟩
  | 4, _ => exact ⟨rfl, rfl, Or.inl ⟨rfl, rfl⟩⟩
  | 5, _ => exact ⟨rfl, rfl, Or.inl ⟨rfl, rfl⟩⟩
  | 6, _ => exact ⟨rfl, rfl, Or.inl ⟨rfl, rfl⟩⟩
  | 7, _ => exact ⟨rfl, rfl, Or.inl ⟨rfl, rfl⟩⟩
  | 8, _ => exact ⟨rfl, rfl, Or.inl ⟨rfl, rfl⟩⟩
  | 9, _ => exact ⟨rfl, rfl, Or.inl ⟨rfl, rfl⟩⟩
  | 10, _ => exact ⟨rfl, rfl, Or.inl ⟨rfl, rfl⟩⟩
  | 11, _ => exact ⟨rfl, rfl, Or.inl ⟨rfl, rfl⟩⟩
  | 12, _ => exact ⟨rfl, rfl, Or.inl ⟨rfl, rfl⟩⟩
  | 13, _ => exact ⟨rfl, rfl, Or.inl ⟨rfl, rfl⟩⟩
  | 14, _ => exact ⟨rfl, rfl, Or.inl ⟨rfl, rfl⟩⟩
  | 15, _ => exact ⟨rfl, rfl, Or.inr (Or.inl ⟨rfl, rfl⟩)⟩
  | 16, _ => exact ⟨rfl, rfl, Or.inr (Or.inl ⟨rfl, rfl⟩)⟩
  | k + 17, h => exact absurd (show k + 17 < 17 from h) (by omega)⟩
set_option maxRecDepth 100000 in
theorem a_inV1 : ∀ w ∈ u_ws RX1 TX1 7, w ∈ a_tb := by
  intro w hw
  obtain ⟨k, hk, rfl⟩ := List.mem_map.mp hw
  have hk := List.mem_range.mp hk
  match k, hk with
  | 0, _ => exact a_t1 (List.mem_of_getElem? (i := 45) rfl) rfl
  | 1, _ => exact a_t1 (List.mem_of_getElem? (i := 47) rfl) rfl
  | 2, _ => exact a_t1 (List.mem_of_getElem? (i := 49) rfl) rfl
  | 3, _ => exact a_t1 (List.mem_of_getElem? (i := 51) rfl) rfl
  | 4, _ => exact a_t1 (List.mem_of_getElem? (i := 53) rfl) rfl
  | 5, _ => exact a_t1 (List.mem_of_getElem? (i := 55) rfl) rfl
  | 6, _ => exact a_t1 (List.mem_of_getElem? (i := 57) rfl) rfl
  | k + 7, h => exact absurd (show k + 7 < 7 from h) (by omega)
theorem a_okV1 : a_okV 1 (RX1, TX1, 7) := ⟨a_inV1, by decide +kernel, by decide +kernel, a_t1 (List.mem_of_getElem? (i := 26) rfl) rfl, rfl, tyX1, tyX1_ok, fun k hk => by
  match k, hk with
  | 0, _ => exact ⟨rfl, rfl, Or.inr (Or.inr ⟨rfl, Or.inr ⟨_, rfl⟩⟩)⟩
  | 1, _ => exact ⟨rfl, rfl, Or.inr (Or.inr ⟨rfl, Or.inr ⟨_, rfl⟩⟩)⟩
  | 2, _ => exact ⟨rfl, rfl, Or.inr (Or.inr ⟨rfl, Or.inr ⟨_, rfl⟩⟩)⟩
  | 3, _ => exact ⟨rfl, rfl, Or.inr (Or.inr ⟨rfl, Or.inr ⟨_, rfl⟩⟩)⟩
  | 4, _ => exact ⟨rfl, rfl, Or.inr (Or.inr ⟨rfl, Or.inr ⟨_, rfl⟩⟩)⟩
  | 5, _ => exact ⟨rfl, rfl, Or.inl ⟨rfl, rfl⟩⟩
  | 6, _ => exact ⟨rfl, rfl, Or.inl ⟨rfl, rfl⟩⟩
  | k + 7, h => exact absurd (show k + 7 < 7 from h) (by omega)⟩
set_option maxRecDepth 100000 in
theorem a_inV2 : ∀ w ∈ u_ws RX2 TX2 7, w ∈ a_tb := by
  intro w hw
  obtain ⟨k, hk, rfl⟩ := List.mem_map.mp hw
  have hk := List.mem_range.mp hk
  match k, hk with
  | 0, _ => exact a_t2 (List.mem_of_getElem? (i := 144) rfl) rfl
  | 1, _ => exact a_t2 (List.mem_of_getElem? (i := 146) rfl) rfl
  | 2, _ => exact a_t2 (List.mem_of_getElem? (i := 148) rfl) rfl
  | 3, _ => exact a_t2 (List.mem_of_getElem? (i := 150) rfl) rfl
  | 4, _ => exact a_t2 (List.mem_of_getElem? (i := 152) rfl) rfl
  | 5, _ => exact a_t2 (List.mem_of_getElem? (i := 154) rfl) rfl
  | 6, _ => exact a_t2 (List.mem_of_getElem? (i := 156) rfl) rfl
  | k + 7, h => exact absurd (show k + 7 < 7 from h) (by omega)
theorem a_okV2 : a_okV 2 (RX2, TX2, 7) := ⟨a_inV2, by decide +kernel, by decide +kernel, a_t2 (List.mem_of_getElem? (i := 126) rfl) rfl, rfl, tyX2, tyX2_ok, fun k hk => by
  match k, hk with
  | 0, _ => exact ⟨rfl, rfl, Or.inl ⟨rfl, rfl⟩⟩
  | 1, _ => exact ⟨rfl, rfl, Or.inl ⟨rfl, rfl⟩⟩
  | 2, _ => exact ⟨rfl, rfl, Or.inr (Or.inr ⟨rfl, Or.inr ⟨_, rfl⟩⟩)⟩
  | 3, _ => exact ⟨rfl, rfl, Or.inr (Or.inr ⟨rfl, Or.inr ⟨_, rfl⟩⟩)⟩
  | 4, _ => exact ⟨rfl, rfl, Or.inr (Or.inr ⟨rfl, Or.inr ⟨_, rfl⟩⟩)⟩
  | 5, _ => exact ⟨rfl, rfl, Or.inr (Or.inr ⟨rfl, Or.inr ⟨_, rfl⟩⟩)⟩
  | 6, _ => exact ⟨rfl, rfl, Or.inl ⟨rfl, rfl⟩⟩
  | k + 7, h => exact absurd (show k + 7 < 7 from h) (by omega)⟩
set_option maxRecDepth 100000 in
theorem a_inV3 : ∀ w ∈ u_ws RX3 TX3 10, w ∈ a_tb := by
  intro w hw
  obtain ⟨k, hk, rfl⟩ := List.mem_map.mp hw
  have hk := List.mem_range.mp hk
  match k, hk with
  | 0, _ => exact a_t1 (List.mem_of_getElem? (i := 226) rfl) rfl
  | 1, _ => exact a_t1 (List.mem_of_getElem? (i := 228) rfl) rfl
  | 2, _ => exact a_t1 (List.mem_of_getElem? (i := 230) rfl) rfl
  | 3, _ => exact a_t1 (List.mem_of_getElem? (i := 232) rfl) rfl
  | 4, _ => exact a_t1 (List.mem_of_getElem? (i := 234) rfl) rfl
  | 5, _ => exact a_t1 (List.mem_of_getElem? (i := 236) rfl) rfl
  | 6, _ => exact a_t1 (List.mem_of_getElem? (i := 238) rfl) rfl
  | 7, _ => exact a_t2 (List.mem_of_getElem? (i := 0) rfl) rfl
  | 8, _ => exact a_t2 (List.mem_of_getElem? (i := 2) rfl) rfl
  | 9, _ => exact a_t2 (List.mem_of_getElem? (i := 4) rfl) rfl
  | k + 10, h => exact absurd (show k + 10 < 10 from h) (by omega)
theorem a_okV3 : a_okV 3 (RX3, TX3, 10) := ⟨a_inV3, by decide +kernel, by decide +kernel, a_t1 (List.mem_of_getElem? (i := 209) rfl) rfl, rfl, tyX3, tyX3_ok, fun k hk => by
  match k, hk with
  | 0, _ => exact ⟨rfl, rfl, Or.inr (Or.inr ⟨rfl, Or.inl ⟨_, rfl⟩⟩)⟩
  | 1, _ => exact ⟨rfl, rfl, Or.inr (Or.inr ⟨rfl, Or.inr ⟨_, rfl⟩⟩)⟩
  | 2, _ => exact ⟨rfl, rfl, Or.inr (Or.inr ⟨rfl, Or.inr ⟨_, rfl⟩⟩)⟩
  | 3, _ => exact ⟨rfl, rfl, Or.inr (Or.inr ⟨rfl, Or.inr ⟨_, rfl⟩⟩)⟩
  | 4, _ => exact ⟨rfl, rfl, Or.inr (Or.inr ⟨rfl, Or.inr ⟨_, rfl⟩⟩)⟩
  | 5, _ => exact ⟨rfl, rfl, Or.inr (Or.inr ⟨rfl, Or.inr ⟨_, rfl⟩⟩)⟩
  | 6, _ => exact ⟨rfl, rfl, Or.inr (Or.inr ⟨rfl, Or.inr ⟨_, rfl⟩⟩)⟩
  | 7, _ => exact ⟨rfl, rfl, Or.inr (Or.inr ⟨rfl, Or.inr ⟨_, rfl⟩⟩)⟩
  | 8, _ => exact ⟨rfl, rfl, Or.inl ⟨rfl, rfl⟩⟩
  | 9, _ => exact ⟨rfl, rfl, Or.inl ⟨rfl, rfl⟩⟩
  | k + 10, h => exact absurd (show k + 10 < 10 from h) (by omega)⟩
set_option maxRecDepth 100000 in
theorem a_inV4 : ∀ w ∈ u_ws RX4 TX4 8, w ∈ a_tb := by
  intro w hw
  obtain ⟨k, hk, rfl⟩ := List.mem_map.mp hw
  have hk := List.mem_range.mp hk
  match k, hk with
  | 0, _ => exact a_t2 (List.mem_of_getElem? (i := 22) rfl) rfl
  | 1, _ => exact a_t2 (List.mem_of_getElem? (i := 24) rfl) rfl
  | 2, _ => exact a_t2 (List.mem_of_getElem? (i := 26) rfl) rfl
  | 3, _ => exact a_t2 (List.mem_of_getElem? (i := 28) rfl) rfl
  | 4, _ => exact a_t2 (List.mem_of_getElem? (i := 30) rfl) rfl
  | 5, _ => exact a_t2 (List.mem_of_getElem? (i := 32) rfl) rfl
  | 6, _ => exact a_t2 (List.mem_of_getElem? (i := 34) rfl) rfl
  | 7, _ => exact a_t2 (List.mem_of_getElem? (i := 36) rfl) rfl
  | k + 8, h => exact absurd (show k + 8 < 8 from h) (by omega)
theorem a_okV4 : a_okV 4 (RX4, TX4, 8) := ⟨a_inV4, by decide +kernel, by decide +kernel, a_t2 (List.mem_of_getElem? (i := 8) rfl) rfl, rfl, tyX4, tyX4_ok, fun k hk => by
  match k, hk with
  | 0, _ => exact ⟨rfl, rfl, Or.inr (Or.inr ⟨rfl, Or.inl ⟨_, rfl⟩⟩)⟩
  | 1, _ => exact ⟨rfl, rfl, Or.inr (Or.inr ⟨rfl, Or.inr ⟨_, rfl⟩⟩)⟩
  | 2, _ => exact ⟨rfl, rfl, Or.inr (Or.inr ⟨rfl, Or.inr ⟨_, rfl⟩⟩)⟩
  | 3, _ => exact ⟨rfl, rfl, Or.inr (Or.inr ⟨rfl, Or.inr ⟨_, rfl⟩⟩)⟩
  | 4, _ => exact ⟨rfl, rfl, Or.inr (Or.inr ⟨rfl, Or.inr ⟨_, rfl⟩⟩)⟩
  | 5, _ => exact ⟨rfl, rfl, Or.inr (Or.inr ⟨rfl, Or.inr ⟨_, rfl⟩⟩)⟩
  | 6, _ => exact ⟨rfl, rfl, Or.inr (Or.inr ⟨rfl, Or.inr ⟨_, rfl⟩⟩)⟩
  | 7, _ => exact ⟨rfl, rfl, Or.inl ⟨rfl, rfl⟩⟩
  | k + 8, h => exact absurd (show k + 8 < 8 from h) (by omega)⟩
set_option maxRecDepth 100000 in
theorem a_inV5 : ∀ w ∈ u_ws RX5 TX5 7, w ∈ a_tb := by
  intro w hw
  obtain ⟨k, hk, rfl⟩ := List.mem_map.mp hw
  have hk := List.mem_range.mp hk
  match k, hk with
  | 0, _ => exact a_t1 (List.mem_of_getElem? (i := 132) rfl) rfl
  | 1, _ => exact a_t1 (List.mem_of_getElem? (i := 134) rfl) rfl
  | 2, _ => exact a_t1 (List.mem_of_getElem? (i := 136) rfl) rfl
  | 3, _ => exact a_t1 (List.mem_of_getElem? (i := 138) rfl) rfl
  | 4, _ => exact a_t1 (List.mem_of_getElem? (i := 140) rfl) rfl
  | 5, _ => exact a_t1 (List.mem_of_getElem? (i := 142) rfl) rfl
  | 6, _ => exact a_t1 (List.mem_of_getElem? (i := 144) rfl) rfl
  | k + 7, h => exact absurd (show k + 7 < 7 from h) (by omega)
theorem a_okV5 : a_okV 5 (RX5, TX5, 7) := ⟨a_inV5, by decide +kernel, by decide +kernel, a_t1 (List.mem_of_getElem? (i := 108) rfl) rfl, rfl, tyX5, tyX5_ok, fun k hk => by
  match k, hk with
  | 0, _ => exact ⟨rfl, rfl, Or.inr (Or.inr ⟨rfl, Or.inl ⟨_, rfl⟩⟩)⟩
  | 1, _ => exact ⟨rfl, rfl, Or.inr (Or.inr ⟨rfl, Or.inl ⟨_, rfl⟩⟩)⟩
  | 2, _ => exact ⟨rfl, rfl, Or.inr (Or.inr ⟨rfl, Or.inr ⟨_, rfl⟩⟩)⟩
  | 3, _ => exact ⟨rfl, rfl, Or.inr (Or.inr ⟨rfl, Or.inr ⟨_, rfl⟩⟩)⟩
  | 4, _ => exact ⟨rfl, rfl, Or.inl ⟨rfl, rfl⟩⟩
  | 5, _ => exact ⟨rfl, rfl, Or.inl ⟨rfl, rfl⟩⟩
  | 6, _ => exact ⟨rfl, rfl, Or.inl ⟨rfl, rfl⟩⟩
  | k + 7, h => exact absurd (show k + 7 < 7 from h) (by omega)⟩
set_option maxRecDepth 100000 in
theorem a_inV6 : ∀ w ∈ u_ws RX6 TX6 6, w ∈ a_tb := by
  intro w hw
  obtain ⟨k, hk, rfl⟩ := List.mem_map.mp hw
  have hk := List.mem_range.mp hk
  match k, hk with
  | 0, _ => exact a_t1 (List.mem_of_getElem? (i := 159) rfl) rfl
  | 1, _ => exact a_t1 (List.mem_of_getElem? (i := 161) rfl) rfl
  | 2, _ => exact a_t1 (List.mem_of_getElem? (i := 163) rfl) rfl
  | 3, _ => exact a_t1 (List.mem_of_getElem? (i := 165) rfl) rfl
  | 4, _ => exact a_t1 (List.mem_of_getElem? (i := 167) rfl) rfl
  | 5, _ => exact a_t1 (List.mem_of_getElem? (i := 169) rfl) rfl
  | k + 6, h => exact absurd (show k + 6 < 6 from h) (by omega)
theorem a_okV6 : a_okV 6 (RX6, TX6, 6) := ⟨a_inV6, by decide +kernel, by decide +kernel, a_t1 (List.mem_of_getElem? (i := 148) rfl) rfl, rfl, tyX6, tyX6_ok, fun k hk => by
  match k, hk with
  | 0, _ => exact ⟨rfl, rfl, Or.inr (Or.inr ⟨rfl, Or.inl ⟨_, rfl⟩⟩)⟩
  | 1, _ => exact ⟨rfl, rfl, Or.inr (Or.inr ⟨rfl, Or.inr ⟨_, rfl⟩⟩)⟩
  | 2, _ => exact ⟨rfl, rfl, Or.inr (Or.inr ⟨rfl, Or.inr ⟨_, rfl⟩⟩)⟩
  | 3, _ => exact ⟨rfl, rfl, Or.inr (Or.inr ⟨rfl, Or.inr ⟨_, rfl⟩⟩)⟩
  | 4, _ => exact ⟨rfl, rfl, Or.inr (Or.inr ⟨rfl, Or.inr ⟨_, rfl⟩⟩)⟩
  | 5, _ => exact ⟨rfl, rfl, Or.inl ⟨rfl, rfl⟩⟩
  | k + 6, h => exact absurd (show k + 6 < 6 from h) (by omega)⟩
set_option maxRecDepth 100000 in
theorem a_inV7 : ∀ w ∈ u_ws RX7 TX7 9, w ∈ a_tb := by
  intro w hw
  obtain ⟨k, hk, rfl⟩ := List.mem_map.mp hw
  have hk := List.mem_range.mp hk
  match k, hk with
  | 0, _ => exact a_t1 (List.mem_of_getElem? (i := 189) rfl) rfl
  | 1, _ => exact a_t1 (List.mem_of_getElem? (i := 191) rfl) rfl
  | 2, _ => exact a_t1 (List.mem_of_getElem? (i := 193) rfl) rfl
  | 3, _ => exact a_t1 (List.mem_of_getElem? (i := 195) rfl) rfl
  | 4, _ => exact a_t1 (List.mem_of_getElem? (i := 197) rfl) rfl
  | 5, _ => exact a_t1 (List.mem_of_getElem? (i := 199) rfl) rfl
  | 6, _ => exact a_t1 (List.mem_of_getElem? (i := 201) rfl) rfl
  | 7, _ => exact a_t1 (List.mem_of_getElem? (i := 203) rfl) rfl
  | 8, _ => exact a_t1 (List.mem_of_getElem? (i := 205) rfl) rfl
  | k + 9, h => exact absurd (show k + 9 < 9 from h) (by omega)
theorem a_okV7 : a_okV 7 (RX7, TX7, 9) := ⟨a_inV7, by decide +kernel, by decide +kernel, a_t1 (List.mem_of_getElem? (i := 173) rfl) rfl, rfl, tyX7, tyX7_ok, fun k hk => by
  match k, hk with
  | 0, _ => exact ⟨rfl, rfl, Or.inr (Or.inr ⟨rfl, Or.inl ⟨_, rfl⟩⟩)⟩
  | 1, _ => exact ⟨rfl, rfl, Or.inr (Or.inr ⟨rfl, Or.inl ⟨_, rfl⟩⟩)⟩
  | 2, _ => exact ⟨rfl, rfl, Or.inr (Or.inr ⟨rfl, Or.inr ⟨_, rfl⟩⟩)⟩
  | 3, _ => exact ⟨rfl, rfl, Or.inr (Or.inr ⟨rfl, Or.inr ⟨_, rfl⟩⟩)⟩
  | 4, _ => exact ⟨rfl, rfl, Or.inr (Or.inr ⟨rfl, Or.inr ⟨_, rfl⟩⟩)⟩
  | 5, _ => exact ⟨rfl, rfl, Or.inr (Or.inr ⟨rfl, Or.inr ⟨_, rfl⟩⟩)⟩
  | 6, _ => exact ⟨rfl, rfl, Or.inl ⟨rfl, rfl⟩⟩
  | 7, _ => exact ⟨rfl, rfl, Or.inl ⟨rfl, rfl⟩⟩
  | 8, _ => exact ⟨rfl, rfl, Or.inl ⟨rfl, rfl⟩⟩
  | k + 9, h => exact absurd (show k + 9 < 9 from h) (by omega)⟩
set_option maxRecDepth 100000 in
theorem a_inV8 : ∀ w ∈ u_ws RX8 TX8 4, w ∈ a_tb := by
  intro w hw
  obtain ⟨k, hk, rfl⟩ := List.mem_map.mp hw
  have hk := List.mem_range.mp hk
  match k, hk with
  | 0, _ => exact a_t1 (List.mem_of_getElem? (i := 74) rfl) rfl
  | 1, _ => exact a_t1 (List.mem_of_getElem? (i := 76) rfl) rfl
  | 2, _ => exact a_t1 (List.mem_of_getElem? (i := 78) rfl) rfl
  | 3, _ => exact a_t1 (List.mem_of_getElem? (i := 80) rfl) rfl
  | k + 4, h => exact absurd (show k + 4 < 4 from h) (by omega)
theorem a_okV8 : a_okV 8 (RX8, TX8, 4) := ⟨a_inV8, by decide +kernel, by decide +kernel, a_t1 (List.mem_of_getElem? (i := 62) rfl) rfl, rfl, tyX8, tyX8_ok, fun k hk => by
  match k, hk with
  | 0, _ => exact ⟨rfl, rfl, Or.inr (Or.inr ⟨rfl, Or.inr ⟨_, rfl⟩⟩)⟩
  | 1, _ => exact ⟨rfl, rfl, Or.inr (Or.inr ⟨rfl, Or.inr ⟨_, rfl⟩⟩)⟩
  | 2, _ => exact ⟨rfl, rfl, Or.inr (Or.inr ⟨rfl, Or.inr ⟨_, rfl⟩⟩)⟩
  | 3, _ => exact ⟨rfl, rfl, Or.inl ⟨rfl, rfl⟩⟩
  | k + 4, h => exact absurd (show k + 4 < 4 from h) (by omega)⟩
set_option maxRecDepth 100000 in
theorem a_inV9 : ∀ w ∈ u_ws RX9 TX9 5, w ∈ a_tb := by
  intro w hw
  obtain ⟨k, hk, rfl⟩ := List.mem_map.mp hw
  have hk := List.mem_range.mp hk
  match k, hk with
  | 0, _ => exact a_t1 (List.mem_of_getElem? (i := 96) rfl) rfl
  | 1, _ => exact a_t1 (List.mem_of_getElem? (i := 98) rfl) rfl
  | 2, _ => exact a_t1 (List.mem_of_getElem? (i := 100) rfl) rfl
  | 3, _ => exact a_t1 (List.mem_of_getElem? (i := 102) rfl) rfl
  | 4, _ => exact a_t1 (List.mem_of_getElem? (i := 104) rfl) rfl
  | k + 5, h => exact absurd (show k + 5 < 5 from h) (by omega)
theorem a_okV9 : a_okV 9 (RX9, TX9, 5) := ⟨a_inV9, by decide +kernel, by decide +kernel, a_t1 (List.mem_of_getElem? (i := 84) rfl) rfl, rfl, tyX9, tyX9_ok, fun k hk => by
  match k, hk with
  | 0, _ => exact ⟨rfl, rfl, Or.inr (Or.inr ⟨rfl, Or.inr ⟨_, rfl⟩⟩)⟩
  | 1, _ => exact ⟨rfl, rfl, Or.inr (Or.inr ⟨rfl, Or.inr ⟨_, rfl⟩⟩)⟩
  | 2, _ => exact ⟨rfl, rfl, Or.inl ⟨rfl, rfl⟩⟩
  | 3, _ => exact ⟨rfl, rfl, Or.inl ⟨rfl, rfl⟩⟩
  | 4, _ => exact ⟨rfl, rfl, Or.inl ⟨rfl, rfl⟩⟩
  | k + 5, h => exact absurd (show k + 5 < 5 from h) (by omega)⟩
set_option maxRecDepth 100000 in
theorem a_inV10 : ∀ w ∈ u_ws RX10 TX10 5, w ∈ a_tb := by
  intro w hw
  obtain ⟨k, hk, rfl⟩ := List.mem_map.mp hw
  have hk := List.mem_range.mp hk
  match k, hk with
  | 0, _ => exact a_t4 (List.mem_of_getElem? (i := 41) rfl) rfl
  | 1, _ => exact a_t4 (List.mem_of_getElem? (i := 43) rfl) rfl
  | 2, _ => exact a_t4 (List.mem_of_getElem? (i := 45) rfl) rfl
  | 3, _ => exact a_t4 (List.mem_of_getElem? (i := 47) rfl) rfl
  | 4, _ => exact a_t4 (List.mem_of_getElem? (i := 49) rfl) rfl
  | k + 5, h => exact absurd (show k + 5 < 5 from h) (by omega)
theorem a_okV10 : a_okV 10 (RX10, TX10, 5) := ⟨a_inV10, by decide +kernel, by decide +kernel, a_t4 (List.mem_of_getElem? (i := 28) rfl) rfl, rfl, tyX10, tyX10_ok, fun k hk => by
  match k, hk with
  | 0, _ => exact ⟨rfl, rfl, Or.inl ⟨rfl, rfl⟩⟩
  | 1, _ => exact ⟨rfl, rfl, Or.inl ⟨rfl, rfl⟩⟩
  | 2, _ => exact ⟨rfl, rfl, Or.inr (Or.inr ⟨rfl, Or.inr ⟨_, rfl⟩⟩)⟩
  | 3, _ => exact ⟨rfl, rfl, Or.inl ⟨rfl, rfl⟩⟩
  | 4, _ => exact ⟨rfl, rfl, Or.inr (Or.inl ⟨rfl, rfl⟩)⟩
  | k + 5, h => exact absurd (show k + 5 < 5 from h) (by omega)⟩
set_option maxRecDepth 100000 in
theorem a_inV11 : ∀ w ∈ u_ws RX11 TX11 12, w ∈ a_tb := by
  intro w hw
  obtain ⟨k, hk, rfl⟩ := List.mem_map.mp hw
  have hk := List.mem_range.mp hk
  match k, hk with
  | 0, _ => exact a_t2 (List.mem_of_getElem? (i := 51) rfl) rfl
  | 1, _ => exact a_t2 (List.mem_of_getElem? (i := 53) rfl) rfl
  | 2, _ => exact a_t2 (List.mem_of_getElem? (i := 55) rfl) rfl
  | 3, _ => exact a_t2 (List.mem_of_getElem? (i := 57) rfl) rfl
  | 4, _ => exact a_t2 (List.mem_of_getElem? (i := 59) rfl) rfl
  | 5, _ => exact a_t2 (List.mem_of_getElem? (i := 61) rfl) rfl
  | 6, _ => exact a_t2 (List.mem_of_getElem? (i := 63) rfl) rfl
  | 7, _ => exact a_t2 (List.mem_of_getElem? (i := 65) rfl) rfl
  | 8, _ => exact a_t2 (List.mem_of_getElem? (i := 67) rfl) rfl
  | 9, _ => exact a_t2 (List.mem_of_getElem? (i := 69) rfl) rfl
  | 10, _ => exact a_t2 (List.mem_of_getElem? (i := 71) rfl) rfl
  | 11, _ => exact a_t2 (List.mem_of_getElem? (i := 73) rfl) rfl
  | k + 12, h => exact absurd (show k + 12 < 12 from h) (by omega)
theorem a_okV11 : a_okV 11 (RX11, TX11, 12) := ⟨a_inV11, by decide +kernel, by decide +kernel, a_t1 (List.mem_of_getElem? (i := 18) rfl) rfl, rfl, tyX11, tyX11_ok, fun k hk => by
  match k, hk with
  | 0, _ => exact ⟨rfl, rfl, Or.inr (Or.inr ⟨rfl, Or.inl ⟨_, rfl⟩⟩)⟩
  | 1, _ => exact ⟨rfl, rfl, Or.inr (Or.inr ⟨rfl, Or.inl ⟨_, rfl⟩⟩)⟩
  | 2, _ => exact ⟨rfl, rfl, Or.inr (Or.inr ⟨rfl, Or.inl ⟨_, rfl⟩⟩)⟩
  | 3, _ => exact ⟨rfl, rfl, Or.inr (Or.inr ⟨rfl, Or.inl ⟨_, rfl⟩⟩)⟩
  | 4, _ => exact ⟨rfl, rfl, Or.inr (Or.inr ⟨rfl, Or.inl ⟨_, rfl⟩⟩)⟩
  | 5, _ => exact ⟨rfl, rfl, Or.inr (Or.inr ⟨rfl, Or.inl ⟨_, rfl⟩⟩)⟩
  | 6, _ => exact ⟨rfl, rfl, Or.inr (Or.inr ⟨rfl, Or.inl ⟨_, rfl⟩⟩)⟩
  | 7, _ => exact ⟨rfl, rfl, Or.inr (Or.inr ⟨rfl, Or.inl ⟨_, rfl⟩⟩)⟩
  | 8, _ => exact ⟨rfl, rfl, Or.inr (Or.inr ⟨rfl, Or.inr ⟨_, rfl⟩⟩)⟩
  | 9, _ => exact ⟨rfl, rfl, Or.inr (Or.inr ⟨rfl, Or.inr ⟨_, rfl⟩⟩)⟩
  | 10, _ => exact ⟨rfl, rfl, Or.inl ⟨rfl, rfl⟩⟩
  | 11, _ => exact ⟨rfl, rfl, Or.inr (Or.inr ⟨rfl, Or.inl ⟨_, rfl⟩⟩)⟩
  | k + 12, h => exact absurd (show k + 12 < 12 from h) (by omega)⟩
set_option maxRecDepth 100000 in
theorem a_inV12 : ∀ w ∈ u_ws RX12 TX12 80, w ∈ a_tb := by
  intro w hw
  obtain ⟨k, hk, rfl⟩ := List.mem_map.mp hw
  have hk := List.mem_range.mp hk
  match k, hk with
  | 0, _ => exact a_t6 (List.mem_of_getElem? (i := 46) rfl) rfl
  | 1, _ => exact a_t6 (List.mem_of_getElem? (i := 48) rfl) rfl
  | 2, _ => exact a_t6 (List.mem_of_getElem? (i := 50) rfl) rfl
  | 3, _ => exact a_t6 (List.mem_of_getElem? (i := 52) rfl) rfl
  | 4, _ => exact a_t6 (List.mem_of_getElem? (i := 54) rfl) rfl
  | 5, _ => exact a_t6 (List.mem_of_getElem? (i := 56) rfl) rfl
  | 6, _ => exact a_t6 (List.mem_of_getElem? (i := 58) rfl) rfl
  | 7, _ => exact a_t6 (List.mem_of_getElem? (i := 60) rfl) rfl
  | 8, _ => exact a_t6 (List.mem_of_getElem? (i := 62) rfl) rfl
  | 9, _ => exact a_t6 (List.mem_of_getElem? (i := 64) rfl) rfl
  | 10, _ => exact a_t6 (List.mem_of_getElem? (i := 66) rfl) rfl
  | 11, _ => exact a_t6 (List.mem_of_getElem? (i := 68) rfl) rfl
  | 12, _ => exact a_t6 (List.mem_of_getElem? (i := 70) rfl) rfl
  | 13, _ => exact a_t6 (List.mem_of_getElem? (i := 72) rfl) rfl
  | 14, _ => exact a_t6 (List.mem_of_getElem? (i := 74) rfl) rfl
  | 15, _ => exact a_t6 (List.mem_of_getElem? (i := 76) rfl) rfl
  | 16, _ => exact a_t6 (List.mem_of_getElem? (i := 78) rfl) rfl
  | 17, _ => exact a_t6 (List.mem_of_getElem? (i := 80) rfl) rfl
  | 18, _ => exact a_t6 (List.mem_of_getElem? (i := 82) rfl) rfl
  | 19, _ => exact a_t6 (List.mem_of_getElem? (i := 84) rfl) rfl
  | 20, _ => exact a_t6 (List.mem_of_getElem? (i := 86) rfl) rfl
  | 21, _ => exact a_t6 (List.mem_of_getElem? (i := 88) rfl) rfl
  | 22, _ => exact a_t6 (List.mem_of_getElem? (i := 90) rfl) rfl
  | 23, _ => exact a_t6 (List.mem_of_getElem? (i := 92) rfl) rfl
  | 24, _ => exact a_t6 (List.mem_of_getElem? (i := 94) rfl) rfl
  | 25, _ => exact a_t6 (List.mem_of_getElem? (i := 96) rfl) rfl
  | 26, _ => exact a_t6 (List.mem_of_getElem? (i := 98) rfl) rfl
  | 27, _ => exact a_t6 (List.mem_of_getElem? (i := 100) rfl) rfl
  | 28, _ => exact a_t6 (List.mem_of_getElem? (i := 102) rfl) rfl
  | 29, _ => exact a_t6 (List.mem_of_getElem? (i := 104) rfl) rfl
  | 30, _ => exact a_t6 (List.mem_of_getElem? (i := 106) rfl) rfl
  | 31, _ => exact a_t6 (List.mem_of_getElem? (i := 108) rfl) rfl
  | 32, _ => exact a_t6 (List.mem_of_getElem? (i := 110) rfl) rfl
  | 33, _ => exact a_t6 (List.mem_of_getElem? (i := 112) rfl) rfl
  | 34, _ => exact a_t6 (List.mem_of_getElem? (i := 114) rfl) rfl
  | 35, _ => exact a_t6 (List.mem_of_getElem? (i := 116) rfl) rfl
  | 36, _ => exact a_t6 (List.mem_of_getElem? (i := 118) rfl) rfl
  | 37, _ => exact a_t6 (List.mem_of_getElem? (i := 120) rfl) rfl
  | 38, _ => exact a_t6 (List.mem_of_getElem? (i := 122) rfl) rfl
  | 39, _ => exact a_t6 (List.mem_of_getElem? (i := 124) rfl) rfl
  | 40, _ => exact a_t6 (List.mem_of_getElem? (i := 126) rfl) rfl
  | 41, _ => exact a_t6 (List.mem_of_getElem? (i := 128) rfl) rfl
  | 42, _ => exact a_t6 (List.mem_of_getElem? (i := 130) rfl) rfl
  | 43, _ => exact a_t6 (List.mem_of_getElem? (i := 132) rfl) rfl
  | 44, _ => exact a_t6 (List.mem_of_getElem? (i := 134) rfl) rfl
  | 45, _ => exact a_t6 (List.mem_of_getElem? (i := 136) rfl) rfl
  | 46, _ => exact a_t6 (List.mem_of_getElem? (i := 138) rfl) rfl
  | 47, _ => exact a_t6 (List.mem_of_getElem? (i := 140) rfl) rfl
  | 48, _ => exact a_t6 (List.mem_of_getElem? (i := 142) rfl) rfl
  | 49, _ => exact a_t6 (List.mem_of_getElem? (i := 144) rfl) rfl
  | 50, _ => exact a_t6 (List.mem_of_getElem? (i := 146) rfl) rfl
  | 51, _ => exact a_t6 (List.mem_of_getElem? (i := 148) rfl) rfl
  | 52, _ => exact a_t6 (List.mem_of_getElem? (i := 150) rfl) rfl
  | 53, _ => exact a_t6 (List.mem_of_getElem? (i := 152) rfl) rfl
  | 54, _ => exact a_t6 (List.mem_of_getElem? (i := 154) rfl) rfl
  | 55, _ => exact a_t6 (List.mem_of_getElem? (i := 156) rfl) rfl
  | 56, _ => exact a_t6 (List.mem_of_getElem? (i := 158) rfl) rfl
  | 57, _ => exact a_t6 (List.mem_of_getElem? (i := 160) rfl) rfl
  | 58, _ => exact a_t6 (List.mem_of_getElem? (i := 162) rfl) rfl
  | 59, _ => exact a_t6 (List.mem_of_getElem? (i := 164) rfl) rfl
  | 60, _ => exact a_t6 (List.mem_of_getElem? (i := 166) rfl) rfl
  | 61, _ => exact a_t6 (List.mem_of_getElem? (i := 168) rfl) rfl
  | 62, _ => exact a_t6 (List.mem_of_getElem? (i := 170) rfl) rfl
  | 63, _ => exact a_t6 (List.mem_of_getElem? (i := 172) rfl) rfl
  | 64, _ => exact a_t6 (List.mem_of_getElem? (i := 174) rfl) rfl
  | 65, _ => exact a_t6 (List.mem_of_getElem? (i := 176) rfl) rfl
  | 66, _ => exact a_t6 (List.mem_of_getElem? (i := 178) rfl) rfl
  | 67, _ => exact a_t6 (List.mem_of_getElem? (i := 180) rfl) rfl
  | 68, _ => exact a_t6 (List.mem_of_getElem? (i := 182) rfl) rfl
  | 69, _ => exact a_t6 (List.mem_of_getElem? (i := 184) rfl) rfl
  | 70, _ => exact a_t6 (List.mem_of_getElem? (i := 186) rfl) rfl
  | 71, _ => exact a_t6 (List.mem_of_getElem? (i := 188) rfl) rfl
  | 72, _ => exact a_t6 (List.mem_of_getElem? (i := 190) rfl) rfl
  | 73, _ => exact a_t6 (List.mem_of_getElem? (i := 192) rfl) rfl
  | 74, _ => exact a_t6 (List.mem_of_getElem? (i := 194) rfl) rfl
  | 75, _ => exact a_t6 (List.mem_of_getElem? (i := 196) rfl) rfl
  | 76, _ => exact a_t6 (List.mem_of_getElem? (i := 198) rfl) rfl
  | 77, _ => exact a_t6 (List.mem_of_getElem? (i := 200) rfl) rfl
  | 78, _ => exact a_t6 (List.mem_of_getElem? (i := 202) rfl) rfl
  | 79, _ => exact a_t6 (List.mem_of_getElem? (i := 204) rfl) rfl
  | k + 80, h => exact absurd (show k + 80 < 80 from h) (by omega)
theorem a_okV12 : a_okV 12 (RX12, TX12, 80) := ⟨a_inV12, by decide +kernel, by decide +kernel, a_t5 (List.mem_of_getElem? (i := 200) rfl) rfl, rfl, tyX12, tyX12_ok, fun k hk => by
  match k, hk with
  | 0, _ => exact ⟨rfl, rfl, Or.inl ⟨rfl, rfl⟩⟩
  | 1, _ => exact ⟨rfl, rfl, Or.inr (Or.inr ⟨rfl, Or.inr ⟨_, rfl⟩⟩)⟩
  | 2, _ => exact ⟨rfl, rfl, Or.inl ⟨rfl, rfl⟩⟩
  | 3, _ => exact ⟨rfl, rfl, Or.inr (Or.inr ⟨rfl, Or.inr ⟨_, rfl⟩⟩)⟩
  | 4, _ => exact ⟨rfl, rfl, Or.inr (Or.inr ⟨rfl, Or.inr ⟨_, rfl⟩⟩)⟩
  | 5, _ => exact ⟨rfl, rfl, Or.inr (Or.inr ⟨rfl, Or.inr ⟨_, rfl⟩⟩)⟩
  | 6, _ => exact ⟨rfl, rfl, Or.inl ⟨rfl, rfl⟩⟩
  | 7, _ => exact ⟨rfl, rfl, Or.inr (Or.inr ⟨rfl, Or.inr ⟨_, rfl⟩⟩)⟩
  | 8, _ => exact ⟨rfl, rfl, Or.inr (Or.inr ⟨rfl, Or.inr ⟨_, rfl⟩⟩)⟩
  | 9, _ => exact ⟨rfl, rfl, Or.inl ⟨rfl, rfl⟩⟩
  | 10, _ => exact ⟨rfl, rfl, Or.inl ⟨rfl, rfl⟩⟩
  | 11, _ => exact ⟨rfl, rfl, Or.inl ⟨rfl, rfl⟩⟩
  | 12, _ => exact ⟨rfl, rfl, Or.inr (Or.inl ⟨rfl, rfl⟩)⟩
  | 13, _ => exact ⟨rfl, rfl, Or.inl ⟨rfl, rfl⟩⟩
  | 14, _ => exact ⟨rfl, rfl, Or.inl ⟨rfl, rfl⟩⟩
  | 15, _ => exact ⟨rfl, rfl, Or.inl ⟨rfl, rfl⟩⟩
  | 16, _ => exact ⟨rfl, rfl, Or.inl ⟨rfl, rfl⟩⟩
  | 17, _ => exact ⟨rfl, rfl, Or.inl ⟨rfl, rfl⟩⟩
  | 18, _ => exact ⟨rfl, rfl, Or.inr (Or.inr ⟨rfl, Or.inr ⟨_, rfl⟩⟩)⟩
  | 19, _ => exact ⟨rfl, rfl, Or.inr (Or.inr ⟨rfl, Or.inr ⟨_, rfl⟩⟩)⟩
  | 20, _ => exact ⟨rfl, rfl, Or.inr (Or.inr ⟨rfl, Or.inr ⟨_, rfl⟩⟩)⟩
  | 21, _ => exact ⟨rfl, rfl, Or.inr (Or.inr ⟨rfl, Or.inr ⟨_, rfl⟩⟩)⟩
  | 22, _ => exact ⟨rfl, rfl, Or.inr (Or.inr ⟨rfl, Or.inr ⟨_, rfl⟩⟩)⟩
  | 23, _ => exact ⟨rfl, rfl, Or.inr (Or.inr ⟨rfl, Or.inr ⟨_, rfl⟩⟩)⟩
  | 24, _ => exact ⟨rfl, rfl, Or.inr (Or.inr ⟨rfl, Or.inr ⟨_, rfl⟩⟩)⟩
  | 25, _ => exact ⟨rfl, rfl, Or.inr (Or.inr ⟨rfl, Or.inr ⟨_, rfl⟩⟩)⟩
  | 26, _ => exact ⟨rfl, rfl, Or.inr (Or.inr ⟨rfl, Or.inr ⟨_, rfl⟩⟩)⟩
  | 27, _ => exact ⟨rfl, rfl, Or.inr (Or.inr ⟨rfl, Or.inr ⟨_, rfl⟩⟩)⟩
  | 28, _ => exact ⟨rfl, rfl, Or.inr (Or.inr ⟨rfl, Or.inr ⟨_, rfl⟩⟩)⟩
  | 29, _ => exact ⟨rfl, rfl, Or.inr (Or.inr ⟨rfl, Or.inr ⟨_, rfl⟩⟩)⟩
  | 30, _ => exact ⟨rfl, rfl, Or.inr (Or.inr ⟨rfl, Or.inr ⟨_, rfl⟩⟩)⟩
  | 31, _ => exact ⟨rfl, rfl, Or.inr (Or.inr ⟨rfl, Or.inr ⟨_, rfl⟩⟩)⟩
  | 32, _ => exact ⟨rfl, rfl, Or.inr (Or.inr ⟨rfl, Or.inr ⟨_, rfl⟩⟩)⟩
  | 33, _ => exact ⟨rfl, rfl, Or.inr (Or.inr ⟨rfl, Or.inr ⟨_, rfl⟩⟩)⟩
  | 34, _ => exact ⟨rfl, rfl, Or.inr (Or.inr ⟨rfl, Or.inr ⟨_, rfl⟩⟩)⟩
  | 35, _ => exact ⟨rfl, rfl, Or.inl ⟨rfl, rfl⟩⟩
  | 36, _ => exact ⟨rfl, rfl, Or.inr (Or.inr ⟨rfl, Or.inr ⟨_, rfl⟩⟩)⟩
  | 37, _ => exact ⟨rfl, rfl, Or.inr (Or.inr ⟨rfl, Or.inr ⟨_, rfl⟩⟩)⟩
  | 38, _ => exact ⟨rfl, rfl, Or.inr (Or.inr ⟨rfl, Or.inr ⟨_, rfl⟩⟩)⟩
  | 39, _ => exact ⟨rfl, rfl, Or.inr (Or.inr ⟨rfl, Or.inr ⟨_, rfl⟩⟩)⟩
  | 40, _ => exact ⟨rfl, rfl, Or.inl ⟨rfl, rfl⟩⟩
  | 41, _ => exact ⟨rfl, rfl, Or.inl ⟨rfl, rfl⟩⟩
  | 42, _ => exact ⟨rfl, rfl, Or.inr (Or.inr ⟨rfl, Or.inr ⟨_, rfl⟩⟩)⟩
  | 43, _ => exact ⟨rfl, rfl, Or.inr (Or.inr ⟨rfl, Or.inr ⟨_, rfl⟩⟩)⟩
  | 44, _ => exact ⟨rfl, rfl, Or.inr (Or.inr ⟨rfl, Or.inr ⟨_, rfl⟩⟩)⟩
  | 45, _ => exact ⟨rfl, rfl, Or.inr (Or.inr ⟨rfl, Or.inr ⟨_, rfl⟩⟩)⟩
  | 46, _ => exact ⟨rfl, rfl, Or.inr (Or.inl ⟨rfl, rfl⟩)⟩
  | 47, _ => exact ⟨rfl, rfl, Or.inl ⟨rfl, rfl⟩⟩
  | 48, _ => exact ⟨rfl, rfl, Or.inl ⟨rfl, rfl⟩⟩
  | 49, _ => exact ⟨rfl, rfl, Or.inl ⟨rfl, rfl⟩⟩
  | 50, _ => exact ⟨rfl, rfl, Or.inr (Or.inl ⟨rfl, rfl⟩)⟩
  | 51, _ => exact ⟨rfl, rfl, Or.inl ⟨rfl, rfl⟩⟩
  | 52, _ => exact ⟨rfl, rfl, Or.inr (Or.inr ⟨rfl, Or.inr ⟨_, rfl⟩⟩)⟩
  | 53, _ => exact ⟨rfl, rfl, Or.inr (Or.inr ⟨rfl, Or.inr ⟨_, rfl⟩⟩)⟩
  | 54, _ => exact ⟨rfl, rfl, Or.inl ⟨rfl, rfl⟩⟩
  | 55, _ => exact ⟨rfl, rfl, Or.inr (Or.inr ⟨rfl, Or.inr ⟨_, rfl⟩⟩)⟩
  | 56, _ => exact ⟨rfl, rfl, Or.inl ⟨rfl, rfl⟩⟩
  | 57, _ => exact ⟨rfl, rfl, Or.inr (Or.inr ⟨rfl, Or.inr ⟨_, rfl⟩⟩)⟩
  | 58, _ => exact ⟨rfl, rfl, Or.inr (Or.inr ⟨rfl, Or.inr ⟨_, rfl⟩⟩)⟩
  | 59, _ => exact ⟨rfl, rfl, Or.inr (Or.inr ⟨rfl, Or.inr ⟨_, rfl⟩⟩)⟩
  | 60, _ => exact ⟨rfl, rfl, Or.inr (Or.inr ⟨rfl, Or.inr ⟨_, rfl⟩⟩)⟩
  | 61, _ => exact ⟨rfl, rfl, Or.inl ⟨rfl, rfl⟩⟩
  | 62, _ => exact ⟨rfl, rfl, Or.inr (Or.inr ⟨rfl, Or.inr ⟨_, rfl⟩⟩)⟩
  | 63, _ => exact ⟨rfl, rfl, Or.inr (Or.inr ⟨rfl, Or.inr ⟨_, rfl⟩⟩)⟩
  | 64, _ => exact ⟨rfl, rfl, Or.inl ⟨rfl, rfl⟩⟩
  | 65, _ => exact ⟨rfl, rfl, Or.inr (Or.inr ⟨rfl, Or.inr ⟨_, rfl⟩⟩)⟩
  | 66, _ => exact ⟨rfl, rfl, Or.inl ⟨rfl, rfl⟩⟩
  | 67, _ => exact ⟨rfl, rfl, Or.inr (Or.inr ⟨rfl, Or.inr ⟨_, rfl⟩⟩)⟩
  | 68, _ => exact ⟨rfl, rfl, Or.inr (Or.inr ⟨rfl, Or.inr ⟨_, rfl⟩⟩)⟩
  | 69, _ => exact ⟨rfl, rfl, Or.inr (Or.inr ⟨rfl, Or.inr ⟨_, rfl⟩⟩)⟩
  | 70, _ => exact ⟨rfl, rfl, Or.inr (Or.inr ⟨rfl, Or.inr ⟨_, rfl⟩⟩)⟩
  | 71, _ => exact ⟨rfl, rfl, Or.inr (Or.inr ⟨rfl, Or.inr ⟨_, rfl⟩⟩)⟩
  | 72, _ => exact ⟨rfl, rfl, Or.inr (Or.inr ⟨rfl, Or.inr ⟨_, rfl⟩⟩)⟩
  | 73, _ => exact ⟨rfl, rfl, Or.inr (Or.inr ⟨rfl, Or.inr ⟨_, rfl⟩⟩)⟩
  | 74, _ => exact ⟨rfl, rfl, Or.inl ⟨rfl, rfl⟩⟩
  | 75, _ => exact ⟨rfl, rfl, Or.inr (Or.inr ⟨rfl, Or.inr ⟨_, rfl⟩⟩)⟩
  | 76, _ => exact ⟨rfl, rfl, Or.inr (Or.inr ⟨rfl, Or.inr ⟨_, rfl⟩⟩)⟩
  | 77, _ => exact ⟨rfl, rfl, Or.inr (Or.inr ⟨rfl, Or.inr ⟨_, rfl⟩⟩)⟩
  | 78, _ => exact ⟨rfl, rfl, Or.inr (Or.inr ⟨rfl, Or.inr ⟨_, rfl⟩⟩)⟩
  | 79, _ => exact ⟨rfl, rfl, Or.inl ⟨rfl, rfl⟩⟩
  | k + 80, h => exact absurd (show k + 80 < 80 from h) (by omega)⟩
theorem a_vw : ∀ (c : Nat) (q : vw_C), vwCl[c]? = some q → a_okV c q := by
  intro c q h
  match c, h with
  | 0, h => cases h; exact a_okV0
  | 1, h => cases h; exact a_okV1
  | 2, h => cases h; exact a_okV2
  | 3, h => cases h; exact a_okV3
  | 4, h => cases h; exact a_okV4
  | 5, h => cases h; exact a_okV5
  | 6, h => cases h; exact a_okV6
  | 7, h => cases h; exact a_okV7
  | 8, h => cases h; exact a_okV8
  | 9, h => cases h; exact a_okV9
  | 10, h => cases h; exact a_okV10
  | 11, h => cases h; exact a_okV11
  | 12, h => cases h; exact a_okV12
  | c + 13, h => cases h
