/-! the reference: its object at M, its arrays behind it, in the order of its initialisers: slot, offset, kind, length -/
def m_arr : List (Nat × Nat × Nat × Nat) := [(1, 1, 20, 200), (3, 2, 20, 20), (4, 3, 20, 20), (5, 4, 20, 20), (7, 5, 20, 6), (8, 6, 20, 6), (18, 7, 20, 30), (19, 8, 20, 30), (20, 9, 20, 30), (21, 10, 20, 30), (22, 11, 20, 30), (23, 12, 20, 30), (24, 13, 20, 30), (25, 14, 20, 30), (26, 15, 20, 30), (27, 16, 20, 30), (28, 17, 20, 30), (29, 18, 21, 30), (30, 19, 21, 30), (31, 20, 20, 30), (32, 21, 20, 30), (33, 22, 20, 120), (34, 23, 20, 7), (36, 24, 20, 84000), (37, 25, 20, 84000), (38, 26, 20, 84000), (39, 27, 20, 50), (42, 28, 20, 1000), (43, 29, 20, 20), (44, 30, 20, 20), (45, 31, 20, 20), (52, 32, 20, 9), (53, 33, 21, 60), (55, 34, 20, 60), (57, 35, 21, 60), (58, 36, 20, 180), (59, 37, 21, 180), (60, 38, 21, 180), (62, 39, 20, 30), (63, 40, 20, 30), (65, 41, 20, 4), (67, 42, 20, 5), (68, 43, 20, 5), (69, 44, 20, 4), (70, 45, 20, 30), (71, 46, 20, 30), (72, 47, 21, 900), (73, 48, 20, 6), (75, 49, 20, 6), (76, 50, 20, 6), (77, 51, 20, 24), (78, 52, 20, 21)]
def m_S (M : Nat) (K L : Nat → Nat) (R : Nat → Nat → Nat) : Prop := ¬ M = 0 ∧ K M = 13 ∧ ∀ q ∈ m_arr, R M q.1 = M + q.2.1 ∧ K (M + q.2.1) = q.2.2.1 ∧ L (M + q.2.1) = q.2.2.2
section ML
variable {M : Nat} {K L : Nat → Nat} {R : Nat → Nat → Nat}
theorem m_0 (h : m_S M K L R) : ¬ M = 0 := h.1
theorem m_K (h : m_S M K L R) : K M = 13 := h.2.1
theorem mR_modes (h : m_S M K L R) : R M 1 = M + 1 := (h.2.2 _ (List.mem_of_getElem? (i := 0) rfl)).1
theorem mK_modes (h : m_S M K L R) : K (M + 1) = 20 := (h.2.2 _ (List.mem_of_getElem? (i := 0) rfl)).2.1
theorem mL_modes (h : m_S M K L R) : L (M + 1) = 200 := (h.2.2 _ (List.mem_of_getElem? (i := 0) rfl)).2.2
theorem mR_tHour (h : m_S M K L R) : R M 3 = M + 2 := (h.2.2 _ (List.mem_of_getElem? (i := 1) rfl)).1
theorem mK_tHour (h : m_S M K L R) : K (M + 2) = 20 := (h.2.2 _ (List.mem_of_getElem? (i := 1) rfl)).2.1
theorem mL_tHour (h : m_S M K L R) : L (M + 2) = 20 := (h.2.2 _ (List.mem_of_getElem? (i := 1) rfl)).2.2
theorem mR_tMany (h : m_S M K L R) : R M 4 = M + 3 := (h.2.2 _ (List.mem_of_getElem? (i := 2) rfl)).1
theorem mK_tMany (h : m_S M K L R) : K (M + 3) = 20 := (h.2.2 _ (List.mem_of_getElem? (i := 2) rfl)).2.1
theorem mL_tMany (h : m_S M K L R) : L (M + 3) = 20 := (h.2.2 _ (List.mem_of_getElem? (i := 2) rfl)).2.2
theorem mR_tFound (h : m_S M K L R) : R M 5 = M + 4 := (h.2.2 _ (List.mem_of_getElem? (i := 3) rfl)).1
theorem mK_tFound (h : m_S M K L R) : K (M + 4) = 20 := (h.2.2 _ (List.mem_of_getElem? (i := 3) rfl)).2.1
theorem mL_tFound (h : m_S M K L R) : L (M + 4) = 20 := (h.2.2 _ (List.mem_of_getElem? (i := 3) rfl)).2.2
theorem mR_can (h : m_S M K L R) : R M 7 = M + 5 := (h.2.2 _ (List.mem_of_getElem? (i := 4) rfl)).1
theorem mK_can (h : m_S M K L R) : K (M + 5) = 20 := (h.2.2 _ (List.mem_of_getElem? (i := 4) rfl)).2.1
theorem mL_can (h : m_S M K L R) : L (M + 5) = 6 := (h.2.2 _ (List.mem_of_getElem? (i := 4) rfl)).2.2
theorem mR_hostsOf (h : m_S M K L R) : R M 8 = M + 6 := (h.2.2 _ (List.mem_of_getElem? (i := 5) rfl)).1
theorem mK_hostsOf (h : m_S M K L R) : K (M + 6) = 20 := (h.2.2 _ (List.mem_of_getElem? (i := 5) rfl)).2.1
theorem mL_hostsOf (h : m_S M K L R) : L (M + 6) = 6 := (h.2.2 _ (List.mem_of_getElem? (i := 5) rfl)).2.2
theorem mR_kind (h : m_S M K L R) : R M 18 = M + 7 := (h.2.2 _ (List.mem_of_getElem? (i := 6) rfl)).1
theorem mK_kind (h : m_S M K L R) : K (M + 7) = 20 := (h.2.2 _ (List.mem_of_getElem? (i := 6) rfl)).2.1
theorem mL_kind (h : m_S M K L R) : L (M + 7) = 30 := (h.2.2 _ (List.mem_of_getElem? (i := 6) rfl)).2.2
theorem mR_group (h : m_S M K L R) : R M 19 = M + 8 := (h.2.2 _ (List.mem_of_getElem? (i := 7) rfl)).1
theorem mK_group (h : m_S M K L R) : K (M + 8) = 20 := (h.2.2 _ (List.mem_of_getElem? (i := 7) rfl)).2.1
theorem mL_group (h : m_S M K L R) : L (M + 8) = 30 := (h.2.2 _ (List.mem_of_getElem? (i := 7) rfl)).2.2
theorem mR_land (h : m_S M K L R) : R M 20 = M + 9 := (h.2.2 _ (List.mem_of_getElem? (i := 8) rfl)).1
theorem mK_land (h : m_S M K L R) : K (M + 9) = 20 := (h.2.2 _ (List.mem_of_getElem? (i := 8) rfl)).2.1
theorem mL_land (h : m_S M K L R) : L (M + 9) = 30 := (h.2.2 _ (List.mem_of_getElem? (i := 8) rfl)).2.2
theorem mR_length (h : m_S M K L R) : R M 21 = M + 10 := (h.2.2 _ (List.mem_of_getElem? (i := 9) rfl)).1
theorem mK_length (h : m_S M K L R) : K (M + 10) = 20 := (h.2.2 _ (List.mem_of_getElem? (i := 9) rfl)).2.1
theorem mL_length (h : m_S M K L R) : L (M + 10) = 30 := (h.2.2 _ (List.mem_of_getElem? (i := 9) rfl)).2.2
theorem mR_wants (h : m_S M K L R) : R M 22 = M + 11 := (h.2.2 _ (List.mem_of_getElem? (i := 10) rfl)).1
theorem mK_wants (h : m_S M K L R) : K (M + 11) = 20 := (h.2.2 _ (List.mem_of_getElem? (i := 10) rfl)).2.1
theorem mL_wants (h : m_S M K L R) : L (M + 11) = 30 := (h.2.2 _ (List.mem_of_getElem? (i := 10) rfl)).2.2
theorem mR_benchSet (h : m_S M K L R) : R M 23 = M + 12 := (h.2.2 _ (List.mem_of_getElem? (i := 11) rfl)).1
theorem mK_benchSet (h : m_S M K L R) : K (M + 12) = 20 := (h.2.2 _ (List.mem_of_getElem? (i := 11) rfl)).2.1
theorem mL_benchSet (h : m_S M K L R) : L (M + 12) = 30 := (h.2.2 _ (List.mem_of_getElem? (i := 11) rfl)).2.2
theorem mR_modeSet (h : m_S M K L R) : R M 24 = M + 13 := (h.2.2 _ (List.mem_of_getElem? (i := 12) rfl)).1
theorem mK_modeSet (h : m_S M K L R) : K (M + 13) = 20 := (h.2.2 _ (List.mem_of_getElem? (i := 12) rfl)).2.1
theorem mL_modeSet (h : m_S M K L R) : L (M + 13) = 30 := (h.2.2 _ (List.mem_of_getElem? (i := 12) rfl)).2.2
theorem mR_gear (h : m_S M K L R) : R M 25 = M + 14 := (h.2.2 _ (List.mem_of_getElem? (i := 13) rfl)).1
theorem mK_gear (h : m_S M K L R) : K (M + 14) = 20 := (h.2.2 _ (List.mem_of_getElem? (i := 13) rfl)).2.1
theorem mL_gear (h : m_S M K L R) : L (M + 14) = 30 := (h.2.2 _ (List.mem_of_getElem? (i := 13) rfl)).2.2
theorem mR_danger (h : m_S M K L R) : R M 26 = M + 15 := (h.2.2 _ (List.mem_of_getElem? (i := 14) rfl)).1
theorem mK_danger (h : m_S M K L R) : K (M + 15) = 20 := (h.2.2 _ (List.mem_of_getElem? (i := 14) rfl)).2.1
theorem mL_danger (h : m_S M K L R) : L (M + 15) = 30 := (h.2.2 _ (List.mem_of_getElem? (i := 14) rfl)).2.2
theorem mR_xOf (h : m_S M K L R) : R M 27 = M + 16 := (h.2.2 _ (List.mem_of_getElem? (i := 15) rfl)).1
theorem mK_xOf (h : m_S M K L R) : K (M + 16) = 20 := (h.2.2 _ (List.mem_of_getElem? (i := 15) rfl)).2.1
theorem mL_xOf (h : m_S M K L R) : L (M + 16) = 30 := (h.2.2 _ (List.mem_of_getElem? (i := 15) rfl)).2.2
theorem mR_yOf (h : m_S M K L R) : R M 28 = M + 17 := (h.2.2 _ (List.mem_of_getElem? (i := 16) rfl)).1
theorem mK_yOf (h : m_S M K L R) : K (M + 17) = 20 := (h.2.2 _ (List.mem_of_getElem? (i := 16) rfl)).2.1
theorem mL_yOf (h : m_S M K L R) : L (M + 17) = 30 := (h.2.2 _ (List.mem_of_getElem? (i := 16) rfl)).2.2
theorem mR_isGone (h : m_S M K L R) : R M 29 = M + 18 := (h.2.2 _ (List.mem_of_getElem? (i := 17) rfl)).1
theorem mK_isGone (h : m_S M K L R) : K (M + 18) = 21 := (h.2.2 _ (List.mem_of_getElem? (i := 17) rfl)).2.1
theorem mL_isGone (h : m_S M K L R) : L (M + 18) = 30 := (h.2.2 _ (List.mem_of_getElem? (i := 17) rfl)).2.2
theorem mR_wasOwed (h : m_S M K L R) : R M 30 = M + 19 := (h.2.2 _ (List.mem_of_getElem? (i := 18) rfl)).1
theorem mK_wasOwed (h : m_S M K L R) : K (M + 19) = 21 := (h.2.2 _ (List.mem_of_getElem? (i := 18) rfl)).2.1
theorem mL_wasOwed (h : m_S M K L R) : L (M + 19) = 30 := (h.2.2 _ (List.mem_of_getElem? (i := 18) rfl)).2.2
theorem mR_atBench (h : m_S M K L R) : R M 31 = M + 20 := (h.2.2 _ (List.mem_of_getElem? (i := 19) rfl)).1
theorem mK_atBench (h : m_S M K L R) : K (M + 20) = 20 := (h.2.2 _ (List.mem_of_getElem? (i := 19) rfl)).2.1
theorem mL_atBench (h : m_S M K L R) : L (M + 20) = 30 := (h.2.2 _ (List.mem_of_getElem? (i := 19) rfl)).2.2
theorem mR_atShift (h : m_S M K L R) : R M 32 = M + 21 := (h.2.2 _ (List.mem_of_getElem? (i := 20) rfl)).1
theorem mK_atShift (h : m_S M K L R) : K (M + 21) = 20 := (h.2.2 _ (List.mem_of_getElem? (i := 20) rfl)).2.1
theorem mL_atShift (h : m_S M K L R) : L (M + 21) = 30 := (h.2.2 _ (List.mem_of_getElem? (i := 20) rfl)).2.2
theorem mR_standing (h : m_S M K L R) : R M 33 = M + 22 := (h.2.2 _ (List.mem_of_getElem? (i := 21) rfl)).1
theorem mK_standing (h : m_S M K L R) : K (M + 22) = 20 := (h.2.2 _ (List.mem_of_getElem? (i := 21) rfl)).2.1
theorem mL_standing (h : m_S M K L R) : L (M + 22) = 120 := (h.2.2 _ (List.mem_of_getElem? (i := 21) rfl)).2.2
theorem mR_refused (h : m_S M K L R) : R M 34 = M + 23 := (h.2.2 _ (List.mem_of_getElem? (i := 22) rfl)).1
theorem mK_refused (h : m_S M K L R) : K (M + 23) = 20 := (h.2.2 _ (List.mem_of_getElem? (i := 22) rfl)).2.1
theorem mL_refused (h : m_S M K L R) : L (M + 23) = 7 := (h.2.2 _ (List.mem_of_getElem? (i := 22) rfl)).2.2
theorem mR_eWhere (h : m_S M K L R) : R M 36 = M + 24 := (h.2.2 _ (List.mem_of_getElem? (i := 23) rfl)).1
theorem mK_eWhere (h : m_S M K L R) : K (M + 24) = 20 := (h.2.2 _ (List.mem_of_getElem? (i := 23) rfl)).2.1
theorem mL_eWhere (h : m_S M K L R) : L (M + 24) = 84000 := (h.2.2 _ (List.mem_of_getElem? (i := 23) rfl)).2.2
theorem mR_eHour (h : m_S M K L R) : R M 37 = M + 25 := (h.2.2 _ (List.mem_of_getElem? (i := 24) rfl)).1
theorem mK_eHour (h : m_S M K L R) : K (M + 25) = 20 := (h.2.2 _ (List.mem_of_getElem? (i := 24) rfl)).2.1
theorem mL_eHour (h : m_S M K L R) : L (M + 25) = 84000 := (h.2.2 _ (List.mem_of_getElem? (i := 24) rfl)).2.2
theorem mR_eAsk (h : m_S M K L R) : R M 38 = M + 26 := (h.2.2 _ (List.mem_of_getElem? (i := 25) rfl)).1
theorem mK_eAsk (h : m_S M K L R) : K (M + 26) = 20 := (h.2.2 _ (List.mem_of_getElem? (i := 25) rfl)).2.1
theorem mL_eAsk (h : m_S M K L R) : L (M + 26) = 84000 := (h.2.2 _ (List.mem_of_getElem? (i := 25) rfl)).2.2
theorem mR_tape (h : m_S M K L R) : R M 39 = M + 27 := (h.2.2 _ (List.mem_of_getElem? (i := 26) rfl)).1
theorem mK_tape (h : m_S M K L R) : K (M + 27) = 20 := (h.2.2 _ (List.mem_of_getElem? (i := 26) rfl)).2.1
theorem mL_tape (h : m_S M K L R) : L (M + 27) = 50 := (h.2.2 _ (List.mem_of_getElem? (i := 26) rfl)).2.2
theorem mR_written (h : m_S M K L R) : R M 42 = M + 28 := (h.2.2 _ (List.mem_of_getElem? (i := 27) rfl)).1
theorem mK_written (h : m_S M K L R) : K (M + 28) = 20 := (h.2.2 _ (List.mem_of_getElem? (i := 27) rfl)).2.1
theorem mL_written (h : m_S M K L R) : L (M + 28) = 1000 := (h.2.2 _ (List.mem_of_getElem? (i := 27) rfl)).2.2
theorem mR_writtenMany (h : m_S M K L R) : R M 43 = M + 29 := (h.2.2 _ (List.mem_of_getElem? (i := 28) rfl)).1
theorem mK_writtenMany (h : m_S M K L R) : K (M + 29) = 20 := (h.2.2 _ (List.mem_of_getElem? (i := 28) rfl)).2.1
theorem mL_writtenMany (h : m_S M K L R) : L (M + 29) = 20 := (h.2.2 _ (List.mem_of_getElem? (i := 28) rfl)).2.2
theorem mR_textFrom (h : m_S M K L R) : R M 44 = M + 30 := (h.2.2 _ (List.mem_of_getElem? (i := 29) rfl)).1
theorem mK_textFrom (h : m_S M K L R) : K (M + 30) = 20 := (h.2.2 _ (List.mem_of_getElem? (i := 29) rfl)).2.1
theorem mL_textFrom (h : m_S M K L R) : L (M + 30) = 20 := (h.2.2 _ (List.mem_of_getElem? (i := 29) rfl)).2.2
theorem mR_struckFrom (h : m_S M K L R) : R M 45 = M + 31 := (h.2.2 _ (List.mem_of_getElem? (i := 30) rfl)).1
theorem mK_struckFrom (h : m_S M K L R) : K (M + 31) = 20 := (h.2.2 _ (List.mem_of_getElem? (i := 30) rfl)).2.1
theorem mL_struckFrom (h : m_S M K L R) : L (M + 31) = 20 := (h.2.2 _ (List.mem_of_getElem? (i := 30) rfl)).2.2
theorem mR_facts (h : m_S M K L R) : R M 52 = M + 32 := (h.2.2 _ (List.mem_of_getElem? (i := 31) rfl)).1
theorem mK_facts (h : m_S M K L R) : K (M + 32) = 20 := (h.2.2 _ (List.mem_of_getElem? (i := 31) rfl)).2.1
theorem mL_facts (h : m_S M K L R) : L (M + 32) = 9 := (h.2.2 _ (List.mem_of_getElem? (i := 31) rfl)).2.2
theorem mR_values (h : m_S M K L R) : R M 53 = M + 33 := (h.2.2 _ (List.mem_of_getElem? (i := 32) rfl)).1
theorem mK_values (h : m_S M K L R) : K (M + 33) = 21 := (h.2.2 _ (List.mem_of_getElem? (i := 32) rfl)).2.1
theorem mL_values (h : m_S M K L R) : L (M + 33) = 60 := (h.2.2 _ (List.mem_of_getElem? (i := 32) rfl)).2.2
theorem mR_signs (h : m_S M K L R) : R M 55 = M + 34 := (h.2.2 _ (List.mem_of_getElem? (i := 33) rfl)).1
theorem mK_signs (h : m_S M K L R) : K (M + 34) = 20 := (h.2.2 _ (List.mem_of_getElem? (i := 33) rfl)).2.1
theorem mL_signs (h : m_S M K L R) : L (M + 34) = 60 := (h.2.2 _ (List.mem_of_getElem? (i := 33) rfl)).2.2
theorem mR_isKin (h : m_S M K L R) : R M 57 = M + 35 := (h.2.2 _ (List.mem_of_getElem? (i := 34) rfl)).1
theorem mK_isKin (h : m_S M K L R) : K (M + 35) = 21 := (h.2.2 _ (List.mem_of_getElem? (i := 34) rfl)).2.1
theorem mL_isKin (h : m_S M K L R) : L (M + 35) = 60 := (h.2.2 _ (List.mem_of_getElem? (i := 34) rfl)).2.2
theorem mR_marks (h : m_S M K L R) : R M 58 = M + 36 := (h.2.2 _ (List.mem_of_getElem? (i := 35) rfl)).1
theorem mK_marks (h : m_S M K L R) : K (M + 36) = 20 := (h.2.2 _ (List.mem_of_getElem? (i := 35) rfl)).2.1
theorem mL_marks (h : m_S M K L R) : L (M + 36) = 180 := (h.2.2 _ (List.mem_of_getElem? (i := 35) rfl)).2.2
theorem mR_isMarked (h : m_S M K L R) : R M 59 = M + 37 := (h.2.2 _ (List.mem_of_getElem? (i := 36) rfl)).1
theorem mK_isMarked (h : m_S M K L R) : K (M + 37) = 21 := (h.2.2 _ (List.mem_of_getElem? (i := 36) rfl)).2.1
theorem mL_isMarked (h : m_S M K L R) : L (M + 37) = 180 := (h.2.2 _ (List.mem_of_getElem? (i := 36) rfl)).2.2
theorem mR_doesCount (h : m_S M K L R) : R M 60 = M + 38 := (h.2.2 _ (List.mem_of_getElem? (i := 37) rfl)).1
theorem mK_doesCount (h : m_S M K L R) : K (M + 38) = 21 := (h.2.2 _ (List.mem_of_getElem? (i := 37) rfl)).2.1
theorem mL_doesCount (h : m_S M K L R) : L (M + 38) = 180 := (h.2.2 _ (List.mem_of_getElem? (i := 37) rfl)).2.2
theorem mR_passedAsk (h : m_S M K L R) : R M 62 = M + 39 := (h.2.2 _ (List.mem_of_getElem? (i := 38) rfl)).1
theorem mK_passedAsk (h : m_S M K L R) : K (M + 39) = 20 := (h.2.2 _ (List.mem_of_getElem? (i := 38) rfl)).2.1
theorem mL_passedAsk (h : m_S M K L R) : L (M + 39) = 30 := (h.2.2 _ (List.mem_of_getElem? (i := 38) rfl)).2.2
theorem mR_order (h : m_S M K L R) : R M 63 = M + 40 := (h.2.2 _ (List.mem_of_getElem? (i := 39) rfl)).1
theorem mK_order (h : m_S M K L R) : K (M + 40) = 20 := (h.2.2 _ (List.mem_of_getElem? (i := 39) rfl)).2.1
theorem mL_order (h : m_S M K L R) : L (M + 40) = 30 := (h.2.2 _ (List.mem_of_getElem? (i := 39) rfl)).2.2
theorem mR_few (h : m_S M K L R) : R M 65 = M + 41 := (h.2.2 _ (List.mem_of_getElem? (i := 40) rfl)).1
theorem mK_few (h : m_S M K L R) : K (M + 41) = 20 := (h.2.2 _ (List.mem_of_getElem? (i := 40) rfl)).2.1
theorem mL_few (h : m_S M K L R) : L (M + 41) = 4 := (h.2.2 _ (List.mem_of_getElem? (i := 40) rfl)).2.2
theorem mR_way (h : m_S M K L R) : R M 67 = M + 42 := (h.2.2 _ (List.mem_of_getElem? (i := 41) rfl)).1
theorem mK_way (h : m_S M K L R) : K (M + 42) = 20 := (h.2.2 _ (List.mem_of_getElem? (i := 41) rfl)).2.1
theorem mL_way (h : m_S M K L R) : L (M + 42) = 5 := (h.2.2 _ (List.mem_of_getElem? (i := 41) rfl)).2.2
theorem mR_sumTo (h : m_S M K L R) : R M 68 = M + 43 := (h.2.2 _ (List.mem_of_getElem? (i := 42) rfl)).1
theorem mK_sumTo (h : m_S M K L R) : K (M + 43) = 20 := (h.2.2 _ (List.mem_of_getElem? (i := 42) rfl)).2.1
theorem mL_sumTo (h : m_S M K L R) : L (M + 43) = 5 := (h.2.2 _ (List.mem_of_getElem? (i := 42) rfl)).2.2
theorem mR_bestWay (h : m_S M K L R) : R M 69 = M + 44 := (h.2.2 _ (List.mem_of_getElem? (i := 43) rfl)).1
theorem mK_bestWay (h : m_S M K L R) : K (M + 44) = 20 := (h.2.2 _ (List.mem_of_getElem? (i := 43) rfl)).2.1
theorem mL_bestWay (h : m_S M K L R) : L (M + 44) = 4 := (h.2.2 _ (List.mem_of_getElem? (i := 43) rfl)).2.2
theorem mR_wasBench (h : m_S M K L R) : R M 70 = M + 45 := (h.2.2 _ (List.mem_of_getElem? (i := 44) rfl)).1
theorem mK_wasBench (h : m_S M K L R) : K (M + 45) = 20 := (h.2.2 _ (List.mem_of_getElem? (i := 44) rfl)).2.1
theorem mL_wasBench (h : m_S M K L R) : L (M + 45) = 30 := (h.2.2 _ (List.mem_of_getElem? (i := 44) rfl)).2.2
theorem mR_wasShift (h : m_S M K L R) : R M 71 = M + 46 := (h.2.2 _ (List.mem_of_getElem? (i := 45) rfl)).1
theorem mK_wasShift (h : m_S M K L R) : K (M + 46) = 20 := (h.2.2 _ (List.mem_of_getElem? (i := 45) rfl)).2.1
theorem mL_wasShift (h : m_S M K L R) : L (M + 46) = 30 := (h.2.2 _ (List.mem_of_getElem? (i := 45) rfl)).2.2
theorem mR_isWish (h : m_S M K L R) : R M 72 = M + 47 := (h.2.2 _ (List.mem_of_getElem? (i := 46) rfl)).1
theorem mK_isWish (h : m_S M K L R) : K (M + 47) = 21 := (h.2.2 _ (List.mem_of_getElem? (i := 46) rfl)).2.1
theorem mL_isWish (h : m_S M K L R) : L (M + 47) = 900 := (h.2.2 _ (List.mem_of_getElem? (i := 46) rfl)).2.2
theorem mR_ringAsk (h : m_S M K L R) : R M 73 = M + 48 := (h.2.2 _ (List.mem_of_getElem? (i := 47) rfl)).1
theorem mK_ringAsk (h : m_S M K L R) : K (M + 48) = 20 := (h.2.2 _ (List.mem_of_getElem? (i := 47) rfl)).2.1
theorem mL_ringAsk (h : m_S M K L R) : L (M + 48) = 6 := (h.2.2 _ (List.mem_of_getElem? (i := 47) rfl)).2.2
theorem mR_oldBench (h : m_S M K L R) : R M 75 = M + 49 := (h.2.2 _ (List.mem_of_getElem? (i := 48) rfl)).1
theorem mK_oldBench (h : m_S M K L R) : K (M + 49) = 20 := (h.2.2 _ (List.mem_of_getElem? (i := 48) rfl)).2.1
theorem mL_oldBench (h : m_S M K L R) : L (M + 49) = 6 := (h.2.2 _ (List.mem_of_getElem? (i := 48) rfl)).2.2
theorem mR_oldShift (h : m_S M K L R) : R M 76 = M + 50 := (h.2.2 _ (List.mem_of_getElem? (i := 49) rfl)).1
theorem mK_oldShift (h : m_S M K L R) : K (M + 50) = 20 := (h.2.2 _ (List.mem_of_getElem? (i := 49) rfl)).2.1
theorem mL_oldShift (h : m_S M K L R) : L (M + 50) = 6 := (h.2.2 _ (List.mem_of_getElem? (i := 49) rfl)).2.2
theorem mR_oldStanding (h : m_S M K L R) : R M 77 = M + 51 := (h.2.2 _ (List.mem_of_getElem? (i := 50) rfl)).1
theorem mK_oldStanding (h : m_S M K L R) : K (M + 51) = 20 := (h.2.2 _ (List.mem_of_getElem? (i := 50) rfl)).2.1
theorem mL_oldStanding (h : m_S M K L R) : L (M + 51) = 24 := (h.2.2 _ (List.mem_of_getElem? (i := 50) rfl)).2.2
theorem mR_row (h : m_S M K L R) : R M 78 = M + 52 := (h.2.2 _ (List.mem_of_getElem? (i := 51) rfl)).1
theorem mK_row (h : m_S M K L R) : K (M + 52) = 20 := (h.2.2 _ (List.mem_of_getElem? (i := 51) rfl)).2.1
theorem mL_row (h : m_S M K L R) : L (M + 52) = 21 := (h.2.2 _ (List.mem_of_getElem? (i := 51) rfl)).2.2
theorem m_n (a b : Nat) (h : ¬ b = 0) : (a + b = 0) = False := eq_false (by omega)
end ML
