section
/-! method 57 -/
theorem dk_2o_0 : (decode prog_15_method_49_code 0 = .ok (.iload_n 0, 1)) ∧ (decode prog_15_method_49_code 1 = .ok (.iload_n 0, 1)) ∧ (decode prog_15_method_49_code 2 = .ok (.iconst 1, 1)) ∧ (decode prog_15_method_49_code 3 = .ok (.iushr, 1)) ∧ (decode prog_15_method_49_code 4 = .ok (.ldc_w 265, 3)) ∧ (decode prog_15_method_49_code 7 = .ok (.iand, 1)) ∧ (decode prog_15_method_49_code 8 = .ok (.isub, 1)) ∧ (decode prog_15_method_49_code 9 = .ok (.istore_n 0, 1)) := by decide +kernel
theorem q57_0 {d : Nat}  {v : Int32} {st : List Value} {h : AH} {P : Option Value → AH → Prop} : a_at d (a_xm a_m57) 0 [some (.int v)] st h P ↔ a_at d (a_xm a_m57) 1 [some (.int v)] (.int v :: st) h P := h_iload_n dk_2o_0.1 rfl
theorem q57_1 {d : Nat}  {v : Int32} {st : List Value} {h : AH} {P : Option Value → AH → Prop} : a_at d (a_xm a_m57) 1 [some (.int v)] st h P ↔ a_at d (a_xm a_m57) 2 [some (.int v)] (.int v :: st) h P := h_iload_n dk_2o_0.2.1 rfl
theorem q57_2 {d : Nat} {ls : AL} {st : List Value} {h : AH} {P : Option Value → AH → Prop} : a_at d (a_xm a_m57) 2 ls st h P ↔ a_at d (a_xm a_m57) 3 ls (.int (1) :: st) h P := h_iconst dk_2o_0.2.2.1 (by decide)
theorem q57_3 {d : Nat} {ls : AL} {v w : Int32} {st : List Value} {h : AH} {P : Option Value → AH → Prop} : a_at d (a_xm a_m57) 3 ls (.int w :: .int v :: st) h P ↔ a_at d (a_xm a_m57) 4 ls (.int ((v.toUInt32 >>> (w.toUInt32 &&& Int32.toUInt32 31)).toInt32) :: st) h P := h_iushr dk_2o_0.2.2.2.1
theorem q57_4 {d : Nat} {ls : AL} {st : List Value} {h : AH} {P : Option Value → AH → Prop} : a_at d (a_xm a_m57) 4 ls st h P ↔ a_at d (a_xm a_m57) 7 ls (.int (1431655765) :: st) h P := h_ldc_w (o' := 14) (i' := 265) dk_2o_0.2.2.2.2.1 (by decide +kernel)
theorem q57_7 {d : Nat} {ls : AL} {v w : Int32} {st : List Value} {h : AH} {P : Option Value → AH → Prop} : a_at d (a_xm a_m57) 7 ls (.int w :: .int v :: st) h P ↔ a_at d (a_xm a_m57) 8 ls (.int (v &&& w) :: st) h P := h_iand dk_2o_0.2.2.2.2.2.1
theorem q57_8 {d : Nat} {ls : AL} {v w : Int32} {st : List Value} {h : AH} {P : Option Value → AH → Prop} : a_at d (a_xm a_m57) 8 ls (.int w :: .int v :: st) h P ↔ a_at d (a_xm a_m57) 9 ls (.int (v - w) :: st) h P := h_isub dk_2o_0.2.2.2.2.2.2.1
theorem q57_9 {d : Nat} {l0 : Option Value} {v : Int32} {st : List Value} {h : AH} {P : Option Value → AH → Prop} : a_at d (a_xm a_m57) 9 [l0] (.int v :: st) h P ↔ a_at d (a_xm a_m57) 10 [some (.int v)] st h P := h_istore_n_0 (ls := [l0]) dk_2o_0.2.2.2.2.2.2.2 rfl (show 0 < 1 by decide) rfl
theorem dk_2o_1 : (decode prog_15_method_49_code 10 = .ok (.iload_n 0, 1)) ∧ (decode prog_15_method_49_code 11 = .ok (.ldc_w 266, 3)) ∧ (decode prog_15_method_49_code 14 = .ok (.iand, 1)) ∧ (decode prog_15_method_49_code 15 = .ok (.iload_n 0, 1)) ∧ (decode prog_15_method_49_code 16 = .ok (.iconst 2, 1)) ∧ (decode prog_15_method_49_code 17 = .ok (.iushr, 1)) ∧ (decode prog_15_method_49_code 18 = .ok (.ldc_w 266, 3)) ∧ (decode prog_15_method_49_code 21 = .ok (.iand, 1)) := by decide +kernel
theorem q57_10 {d : Nat}  {v : Int32} {st : List Value} {h : AH} {P : Option Value → AH → Prop} : a_at d (a_xm a_m57) 10 [some (.int v)] st h P ↔ a_at d (a_xm a_m57) 11 [some (.int v)] (.int v :: st) h P := h_iload_n dk_2o_1.1 rfl
theorem q57_11 {d : Nat} {ls : AL} {st : List Value} {h : AH} {P : Option Value → AH → Prop} : a_at d (a_xm a_m57) 11 ls st h P ↔ a_at d (a_xm a_m57) 14 ls (.int (858993459) :: st) h P := h_ldc_w (o' := 14) (i' := 266) dk_2o_1.2.1 (by decide +kernel)
theorem q57_14 {d : Nat} {ls : AL} {v w : Int32} {st : List Value} {h : AH} {P : Option Value → AH → Prop} : a_at d (a_xm a_m57) 14 ls (.int w :: .int v :: st) h P ↔ a_at d (a_xm a_m57) 15 ls (.int (v &&& w) :: st) h P := h_iand dk_2o_1.2.2.1
theorem q57_15 {d : Nat}  {v : Int32} {st : List Value} {h : AH} {P : Option Value → AH → Prop} : a_at d (a_xm a_m57) 15 [some (.int v)] st h P ↔ a_at d (a_xm a_m57) 16 [some (.int v)] (.int v :: st) h P := h_iload_n dk_2o_1.2.2.2.1 rfl
theorem q57_16 {d : Nat} {ls : AL} {st : List Value} {h : AH} {P : Option Value → AH → Prop} : a_at d (a_xm a_m57) 16 ls st h P ↔ a_at d (a_xm a_m57) 17 ls (.int (2) :: st) h P := h_iconst dk_2o_1.2.2.2.2.1 (by decide)
theorem q57_17 {d : Nat} {ls : AL} {v w : Int32} {st : List Value} {h : AH} {P : Option Value → AH → Prop} : a_at d (a_xm a_m57) 17 ls (.int w :: .int v :: st) h P ↔ a_at d (a_xm a_m57) 18 ls (.int ((v.toUInt32 >>> (w.toUInt32 &&& Int32.toUInt32 31)).toInt32) :: st) h P := h_iushr dk_2o_1.2.2.2.2.2.1
theorem q57_18 {d : Nat} {ls : AL} {st : List Value} {h : AH} {P : Option Value → AH → Prop} : a_at d (a_xm a_m57) 18 ls st h P ↔ a_at d (a_xm a_m57) 21 ls (.int (858993459) :: st) h P := h_ldc_w (o' := 14) (i' := 266) dk_2o_1.2.2.2.2.2.2.1 (by decide +kernel)
theorem q57_21 {d : Nat} {ls : AL} {v w : Int32} {st : List Value} {h : AH} {P : Option Value → AH → Prop} : a_at d (a_xm a_m57) 21 ls (.int w :: .int v :: st) h P ↔ a_at d (a_xm a_m57) 22 ls (.int (v &&& w) :: st) h P := h_iand dk_2o_1.2.2.2.2.2.2.2
theorem dk_2o_2 : (decode prog_15_method_49_code 22 = .ok (.iadd, 1)) ∧ (decode prog_15_method_49_code 23 = .ok (.istore_n 0, 1)) ∧ (decode prog_15_method_49_code 24 = .ok (.iload_n 0, 1)) ∧ (decode prog_15_method_49_code 25 = .ok (.iload_n 0, 1)) ∧ (decode prog_15_method_49_code 26 = .ok (.iconst 4, 1)) ∧ (decode prog_15_method_49_code 27 = .ok (.iushr, 1)) ∧ (decode prog_15_method_49_code 28 = .ok (.iadd, 1)) ∧ (decode prog_15_method_49_code 29 = .ok (.ldc_w 267, 3)) := by decide +kernel
theorem q57_22 {d : Nat} {ls : AL} {v w : Int32} {st : List Value} {h : AH} {P : Option Value → AH → Prop} : a_at d (a_xm a_m57) 22 ls (.int w :: .int v :: st) h P ↔ a_at d (a_xm a_m57) 23 ls (.int (v + w) :: st) h P := h_iadd dk_2o_2.1
theorem q57_23 {d : Nat} {l0 : Option Value} {v : Int32} {st : List Value} {h : AH} {P : Option Value → AH → Prop} : a_at d (a_xm a_m57) 23 [l0] (.int v :: st) h P ↔ a_at d (a_xm a_m57) 24 [some (.int v)] st h P := h_istore_n_0 (ls := [l0]) dk_2o_2.2.1 rfl (show 0 < 1 by decide) rfl
theorem q57_24 {d : Nat}  {v : Int32} {st : List Value} {h : AH} {P : Option Value → AH → Prop} : a_at d (a_xm a_m57) 24 [some (.int v)] st h P ↔ a_at d (a_xm a_m57) 25 [some (.int v)] (.int v :: st) h P := h_iload_n dk_2o_2.2.2.1 rfl
theorem q57_25 {d : Nat}  {v : Int32} {st : List Value} {h : AH} {P : Option Value → AH → Prop} : a_at d (a_xm a_m57) 25 [some (.int v)] st h P ↔ a_at d (a_xm a_m57) 26 [some (.int v)] (.int v :: st) h P := h_iload_n dk_2o_2.2.2.2.1 rfl
theorem q57_26 {d : Nat} {ls : AL} {st : List Value} {h : AH} {P : Option Value → AH → Prop} : a_at d (a_xm a_m57) 26 ls st h P ↔ a_at d (a_xm a_m57) 27 ls (.int (4) :: st) h P := h_iconst dk_2o_2.2.2.2.2.1 (by decide)
theorem q57_27 {d : Nat} {ls : AL} {v w : Int32} {st : List Value} {h : AH} {P : Option Value → AH → Prop} : a_at d (a_xm a_m57) 27 ls (.int w :: .int v :: st) h P ↔ a_at d (a_xm a_m57) 28 ls (.int ((v.toUInt32 >>> (w.toUInt32 &&& Int32.toUInt32 31)).toInt32) :: st) h P := h_iushr dk_2o_2.2.2.2.2.2.1
theorem q57_28 {d : Nat} {ls : AL} {v w : Int32} {st : List Value} {h : AH} {P : Option Value → AH → Prop} : a_at d (a_xm a_m57) 28 ls (.int w :: .int v :: st) h P ↔ a_at d (a_xm a_m57) 29 ls (.int (v + w) :: st) h P := h_iadd dk_2o_2.2.2.2.2.2.2.1
theorem q57_29 {d : Nat} {ls : AL} {st : List Value} {h : AH} {P : Option Value → AH → Prop} : a_at d (a_xm a_m57) 29 ls st h P ↔ a_at d (a_xm a_m57) 32 ls (.int (252645135) :: st) h P := h_ldc_w (o' := 14) (i' := 267) dk_2o_2.2.2.2.2.2.2.2 (by decide +kernel)
theorem dk_2o_3 : (decode prog_15_method_49_code 32 = .ok (.iand, 1)) ∧ (decode prog_15_method_49_code 33 = .ok (.istore_n 0, 1)) ∧ (decode prog_15_method_49_code 34 = .ok (.iload_n 0, 1)) ∧ (decode prog_15_method_49_code 35 = .ok (.iload_n 0, 1)) ∧ (decode prog_15_method_49_code 36 = .ok (.bipush 8, 2)) ∧ (decode prog_15_method_49_code 38 = .ok (.iushr, 1)) ∧ (decode prog_15_method_49_code 39 = .ok (.iadd, 1)) ∧ (decode prog_15_method_49_code 40 = .ok (.istore_n 0, 1)) := by decide +kernel
theorem q57_32 {d : Nat} {ls : AL} {v w : Int32} {st : List Value} {h : AH} {P : Option Value → AH → Prop} : a_at d (a_xm a_m57) 32 ls (.int w :: .int v :: st) h P ↔ a_at d (a_xm a_m57) 33 ls (.int (v &&& w) :: st) h P := h_iand dk_2o_3.1
theorem q57_33 {d : Nat} {l0 : Option Value} {v : Int32} {st : List Value} {h : AH} {P : Option Value → AH → Prop} : a_at d (a_xm a_m57) 33 [l0] (.int v :: st) h P ↔ a_at d (a_xm a_m57) 34 [some (.int v)] st h P := h_istore_n_0 (ls := [l0]) dk_2o_3.2.1 rfl (show 0 < 1 by decide) rfl
theorem q57_34 {d : Nat}  {v : Int32} {st : List Value} {h : AH} {P : Option Value → AH → Prop} : a_at d (a_xm a_m57) 34 [some (.int v)] st h P ↔ a_at d (a_xm a_m57) 35 [some (.int v)] (.int v :: st) h P := h_iload_n dk_2o_3.2.2.1 rfl
theorem q57_35 {d : Nat}  {v : Int32} {st : List Value} {h : AH} {P : Option Value → AH → Prop} : a_at d (a_xm a_m57) 35 [some (.int v)] st h P ↔ a_at d (a_xm a_m57) 36 [some (.int v)] (.int v :: st) h P := h_iload_n dk_2o_3.2.2.2.1 rfl
theorem q57_36 {d : Nat} {ls : AL} {st : List Value} {h : AH} {P : Option Value → AH → Prop} : a_at d (a_xm a_m57) 36 ls st h P ↔ a_at d (a_xm a_m57) 38 ls (.int (8) :: st) h P := h_bipush dk_2o_3.2.2.2.2.1 (by decide)
theorem q57_38 {d : Nat} {ls : AL} {v w : Int32} {st : List Value} {h : AH} {P : Option Value → AH → Prop} : a_at d (a_xm a_m57) 38 ls (.int w :: .int v :: st) h P ↔ a_at d (a_xm a_m57) 39 ls (.int ((v.toUInt32 >>> (w.toUInt32 &&& Int32.toUInt32 31)).toInt32) :: st) h P := h_iushr dk_2o_3.2.2.2.2.2.1
theorem q57_39 {d : Nat} {ls : AL} {v w : Int32} {st : List Value} {h : AH} {P : Option Value → AH → Prop} : a_at d (a_xm a_m57) 39 ls (.int w :: .int v :: st) h P ↔ a_at d (a_xm a_m57) 40 ls (.int (v + w) :: st) h P := h_iadd dk_2o_3.2.2.2.2.2.2.1
theorem q57_40 {d : Nat} {l0 : Option Value} {v : Int32} {st : List Value} {h : AH} {P : Option Value → AH → Prop} : a_at d (a_xm a_m57) 40 [l0] (.int v :: st) h P ↔ a_at d (a_xm a_m57) 41 [some (.int v)] st h P := h_istore_n_0 (ls := [l0]) dk_2o_3.2.2.2.2.2.2.2 rfl (show 0 < 1 by decide) rfl
theorem dk_2o_4 : (decode prog_15_method_49_code 41 = .ok (.iload_n 0, 1)) ∧ (decode prog_15_method_49_code 42 = .ok (.iload_n 0, 1)) ∧ (decode prog_15_method_49_code 43 = .ok (.bipush 16, 2)) ∧ (decode prog_15_method_49_code 45 = .ok (.iushr, 1)) ∧ (decode prog_15_method_49_code 46 = .ok (.iadd, 1)) ∧ (decode prog_15_method_49_code 47 = .ok (.istore_n 0, 1)) ∧ (decode prog_15_method_49_code 48 = .ok (.iload_n 0, 1)) ∧ (decode prog_15_method_49_code 49 = .ok (.bipush 63, 2)) := by decide +kernel
theorem q57_41 {d : Nat}  {v : Int32} {st : List Value} {h : AH} {P : Option Value → AH → Prop} : a_at d (a_xm a_m57) 41 [some (.int v)] st h P ↔ a_at d (a_xm a_m57) 42 [some (.int v)] (.int v :: st) h P := h_iload_n dk_2o_4.1 rfl
theorem q57_42 {d : Nat}  {v : Int32} {st : List Value} {h : AH} {P : Option Value → AH → Prop} : a_at d (a_xm a_m57) 42 [some (.int v)] st h P ↔ a_at d (a_xm a_m57) 43 [some (.int v)] (.int v :: st) h P := h_iload_n dk_2o_4.2.1 rfl
theorem q57_43 {d : Nat} {ls : AL} {st : List Value} {h : AH} {P : Option Value → AH → Prop} : a_at d (a_xm a_m57) 43 ls st h P ↔ a_at d (a_xm a_m57) 45 ls (.int (16) :: st) h P := h_bipush dk_2o_4.2.2.1 (by decide)
theorem q57_45 {d : Nat} {ls : AL} {v w : Int32} {st : List Value} {h : AH} {P : Option Value → AH → Prop} : a_at d (a_xm a_m57) 45 ls (.int w :: .int v :: st) h P ↔ a_at d (a_xm a_m57) 46 ls (.int ((v.toUInt32 >>> (w.toUInt32 &&& Int32.toUInt32 31)).toInt32) :: st) h P := h_iushr dk_2o_4.2.2.2.1
theorem q57_46 {d : Nat} {ls : AL} {v w : Int32} {st : List Value} {h : AH} {P : Option Value → AH → Prop} : a_at d (a_xm a_m57) 46 ls (.int w :: .int v :: st) h P ↔ a_at d (a_xm a_m57) 47 ls (.int (v + w) :: st) h P := h_iadd dk_2o_4.2.2.2.2.1
theorem q57_47 {d : Nat} {l0 : Option Value} {v : Int32} {st : List Value} {h : AH} {P : Option Value → AH → Prop} : a_at d (a_xm a_m57) 47 [l0] (.int v :: st) h P ↔ a_at d (a_xm a_m57) 48 [some (.int v)] st h P := h_istore_n_0 (ls := [l0]) dk_2o_4.2.2.2.2.2.1 rfl (show 0 < 1 by decide) rfl
theorem q57_48 {d : Nat}  {v : Int32} {st : List Value} {h : AH} {P : Option Value → AH → Prop} : a_at d (a_xm a_m57) 48 [some (.int v)] st h P ↔ a_at d (a_xm a_m57) 49 [some (.int v)] (.int v :: st) h P := h_iload_n dk_2o_4.2.2.2.2.2.2.1 rfl
theorem q57_49 {d : Nat} {ls : AL} {st : List Value} {h : AH} {P : Option Value → AH → Prop} : a_at d (a_xm a_m57) 49 ls st h P ↔ a_at d (a_xm a_m57) 51 ls (.int (63) :: st) h P := h_bipush dk_2o_4.2.2.2.2.2.2.2 (by decide)
theorem dk_2o_5 : (decode prog_15_method_49_code 51 = .ok (.iand, 1)) ∧ (decode prog_15_method_49_code 52 = .ok (.ireturn, 1)) := by decide +kernel
theorem q57_51 {d : Nat} {ls : AL} {v w : Int32} {st : List Value} {h : AH} {P : Option Value → AH → Prop} : a_at d (a_xm a_m57) 51 ls (.int w :: .int v :: st) h P ↔ a_at d (a_xm a_m57) 52 ls (.int (v &&& w) :: st) h P := h_iand dk_2o_5.1
theorem q57_52 {d : Nat} {ls : AL} {v : Int32} {h : AH} {P : Option Value → AH → Prop} : a_at d (a_xm a_m57) 52 ls [.int v] h P ↔ P (some (.int v)) h := h_ret dk_2o_5.2 rfl
end
section
/-! method 31 -/
theorem dk_2p_0 : (decode prog_16_method_47_code 0 = .ok (.iload_n 0, 1)) ∧ (decode prog_16_method_47_code 1 = .ok (.iload_n 1, 1)) ∧ (decode prog_16_method_47_code 2 = .ok (.idiv, 1)) ∧ (decode prog_16_method_47_code 3 = .ok (.istore_n 2, 1)) ∧ (decode prog_16_method_47_code 4 = .ok (.iload_n 0, 1)) ∧ (decode prog_16_method_47_code 5 = .ok (.iload_n 1, 1)) ∧ (decode prog_16_method_47_code 6 = .ok (.ixor, 1)) ∧ (decode prog_16_method_47_code 7 = .ok (.ifCond .ge 14, 3)) := by decide +kernel
theorem q31_0 {d : Nat} {l1 : Option Value} {l2 : Option Value} {v : Int32} {st : List Value} {h : AH} {P : Option Value → AH → Prop} : a_at d (a_xm a_m31) 0 [some (.int v), l1, l2] st h P ↔ a_at d (a_xm a_m31) 1 [some (.int v), l1, l2] (.int v :: st) h P := h_iload_n dk_2p_0.1 rfl
theorem q31_1 {d : Nat} {l0 : Option Value} {l2 : Option Value} {v : Int32} {st : List Value} {h : AH} {P : Option Value → AH → Prop} : a_at d (a_xm a_m31) 1 [l0, some (.int v), l2] st h P ↔ a_at d (a_xm a_m31) 2 [l0, some (.int v), l2] (.int v :: st) h P := h_iload_n dk_2p_0.2.1 rfl
theorem q31_2 {d : Nat} {ls : AL} {v w : Int32} {st : List Value} {h : AH} {P : Option Value → AH → Prop} : a_at d (a_xm a_m31) 2 ls (.int w :: .int v :: st) h P ↔ ¬ w = 0 ∧ a_at d (a_xm a_m31) 3 ls (.int (v / w) :: st) h P := h_idiv dk_2p_0.2.2.1
theorem q31_3 {d : Nat} {l0 : Option Value} {l1 : Option Value} {l2 : Option Value} {v : Int32} {st : List Value} {h : AH} {P : Option Value → AH → Prop} : a_at d (a_xm a_m31) 3 [l0, l1, l2] (.int v :: st) h P ↔ a_nl l1 ∧ a_at d (a_xm a_m31) 4 [l0, l1, some (.int v)] st h P := h_istore_n (ls := [l0, l1, l2]) dk_2p_0.2.2.2.1 rfl rfl (show 2 < 3 by decide) rfl
theorem q31_4 {d : Nat} {l1 : Option Value} {l2 : Option Value} {v : Int32} {st : List Value} {h : AH} {P : Option Value → AH → Prop} : a_at d (a_xm a_m31) 4 [some (.int v), l1, l2] st h P ↔ a_at d (a_xm a_m31) 5 [some (.int v), l1, l2] (.int v :: st) h P := h_iload_n dk_2p_0.2.2.2.2.1 rfl
theorem q31_5 {d : Nat} {l0 : Option Value} {l2 : Option Value} {v : Int32} {st : List Value} {h : AH} {P : Option Value → AH → Prop} : a_at d (a_xm a_m31) 5 [l0, some (.int v), l2] st h P ↔ a_at d (a_xm a_m31) 6 [l0, some (.int v), l2] (.int v :: st) h P := h_iload_n dk_2p_0.2.2.2.2.2.1 rfl
theorem q31_6 {d : Nat} {ls : AL} {v w : Int32} {st : List Value} {h : AH} {P : Option Value → AH → Prop} : a_at d (a_xm a_m31) 6 ls (.int w :: .int v :: st) h P ↔ a_at d (a_xm a_m31) 7 ls (.int (v ^^^ w) :: st) h P := h_ixor dk_2p_0.2.2.2.2.2.2.1
theorem q31_7 {d : Nat} {ls : AL} {v : Int32} {st : List Value} {h : AH} {P : Option Value → AH → Prop} : a_at d (a_xm a_m31) 7 ls (.int v :: st) h P ↔ (0 ≤ v → a_at d (a_xm a_m31) 21 ls st h P) ∧ (¬ (0 ≤ v) → a_at d (a_xm a_m31) 10 ls st h P) := h_ifCond_ge dk_2p_0.2.2.2.2.2.2.2 (by decide)
theorem dk_2p_1 : (decode prog_16_method_47_code 10 = .ok (.iload_n 2, 1)) ∧ (decode prog_16_method_47_code 11 = .ok (.iload_n 1, 1)) ∧ (decode prog_16_method_47_code 12 = .ok (.imul, 1)) ∧ (decode prog_16_method_47_code 13 = .ok (.iload_n 0, 1)) ∧ (decode prog_16_method_47_code 14 = .ok (.if_icmp .eq 7, 3)) ∧ (decode prog_16_method_47_code 17 = .ok (.iload_n 2, 1)) ∧ (decode prog_16_method_47_code 18 = .ok (.iconst 1, 1)) ∧ (decode prog_16_method_47_code 19 = .ok (.isub, 1)) := by decide +kernel
theorem q31_10 {d : Nat} {l0 : Option Value} {l1 : Option Value} {v : Int32} {st : List Value} {h : AH} {P : Option Value → AH → Prop} : a_at d (a_xm a_m31) 10 [l0, l1, some (.int v)] st h P ↔ a_at d (a_xm a_m31) 11 [l0, l1, some (.int v)] (.int v :: st) h P := h_iload_n dk_2p_1.1 rfl
theorem q31_11 {d : Nat} {l0 : Option Value} {l2 : Option Value} {v : Int32} {st : List Value} {h : AH} {P : Option Value → AH → Prop} : a_at d (a_xm a_m31) 11 [l0, some (.int v), l2] st h P ↔ a_at d (a_xm a_m31) 12 [l0, some (.int v), l2] (.int v :: st) h P := h_iload_n dk_2p_1.2.1 rfl
theorem q31_12 {d : Nat} {ls : AL} {v w : Int32} {st : List Value} {h : AH} {P : Option Value → AH → Prop} : a_at d (a_xm a_m31) 12 ls (.int w :: .int v :: st) h P ↔ a_at d (a_xm a_m31) 13 ls (.int (v * w) :: st) h P := h_imul dk_2p_1.2.2.1
theorem q31_13 {d : Nat} {l1 : Option Value} {l2 : Option Value} {v : Int32} {st : List Value} {h : AH} {P : Option Value → AH → Prop} : a_at d (a_xm a_m31) 13 [some (.int v), l1, l2] st h P ↔ a_at d (a_xm a_m31) 14 [some (.int v), l1, l2] (.int v :: st) h P := h_iload_n dk_2p_1.2.2.2.1 rfl
theorem q31_14 {d : Nat} {ls : AL} {v w : Int32} {st : List Value} {h : AH} {P : Option Value → AH → Prop} : a_at d (a_xm a_m31) 14 ls (.int w :: .int v :: st) h P ↔ (v = w → a_at d (a_xm a_m31) 21 ls st h P) ∧ (¬ (v = w) → a_at d (a_xm a_m31) 17 ls st h P) := h_if_icmp_eq dk_2p_1.2.2.2.2.1 (by decide)
theorem q31_17 {d : Nat} {l0 : Option Value} {l1 : Option Value} {v : Int32} {st : List Value} {h : AH} {P : Option Value → AH → Prop} : a_at d (a_xm a_m31) 17 [l0, l1, some (.int v)] st h P ↔ a_at d (a_xm a_m31) 18 [l0, l1, some (.int v)] (.int v :: st) h P := h_iload_n dk_2p_1.2.2.2.2.2.1 rfl
theorem q31_18 {d : Nat} {ls : AL} {st : List Value} {h : AH} {P : Option Value → AH → Prop} : a_at d (a_xm a_m31) 18 ls st h P ↔ a_at d (a_xm a_m31) 19 ls (.int (1) :: st) h P := h_iconst dk_2p_1.2.2.2.2.2.2.1 (by decide)
theorem q31_19 {d : Nat} {ls : AL} {v w : Int32} {st : List Value} {h : AH} {P : Option Value → AH → Prop} : a_at d (a_xm a_m31) 19 ls (.int w :: .int v :: st) h P ↔ a_at d (a_xm a_m31) 20 ls (.int (v - w) :: st) h P := h_isub dk_2p_1.2.2.2.2.2.2.2
theorem dk_2p_2 : (decode prog_16_method_47_code 20 = .ok (.ireturn, 1)) ∧ (decode prog_16_method_47_code 21 = .ok (.iload_n 2, 1)) ∧ (decode prog_16_method_47_code 22 = .ok (.ireturn, 1)) := by decide +kernel
theorem q31_20 {d : Nat} {ls : AL} {v : Int32} {h : AH} {P : Option Value → AH → Prop} : a_at d (a_xm a_m31) 20 ls [.int v] h P ↔ P (some (.int v)) h := h_ret dk_2p_2.1 rfl
theorem q31_21 {d : Nat} {l0 : Option Value} {l1 : Option Value} {v : Int32} {st : List Value} {h : AH} {P : Option Value → AH → Prop} : a_at d (a_xm a_m31) 21 [l0, l1, some (.int v)] st h P ↔ a_at d (a_xm a_m31) 22 [l0, l1, some (.int v)] (.int v :: st) h P := h_iload_n dk_2p_2.2.1 rfl
theorem q31_22 {d : Nat} {ls : AL} {v : Int32} {h : AH} {P : Option Value → AH → Prop} : a_at d (a_xm a_m31) 22 ls [.int v] h P ↔ P (some (.int v)) h := h_ret dk_2p_2.2.2 rfl
/-! method 35 -/
theorem dk_2p_3 : (decode prog_16_method_65_code 0 = .ok (.iload_n 0, 1)) ∧ (decode prog_16_method_65_code 1 = .ok (.iload_n 1, 1)) ∧ (decode prog_16_method_65_code 2 = .ok (.if_icmp .lt 7, 3)) ∧ (decode prog_16_method_65_code 5 = .ok (.iload_n 0, 1)) ∧ (decode prog_16_method_65_code 6 = .ok (.goto 4, 3)) ∧ (decode prog_16_method_65_code 9 = .ok (.iload_n 1, 1)) ∧ (decode prog_16_method_65_code 10 = .ok (.ireturn, 1)) := by decide +kernel
theorem q35_0 {d : Nat} {l1 : Option Value} {v : Int32} {st : List Value} {h : AH} {P : Option Value → AH → Prop} : a_at d (a_xm a_m35) 0 [some (.int v), l1] st h P ↔ a_at d (a_xm a_m35) 1 [some (.int v), l1] (.int v :: st) h P := h_iload_n dk_2p_3.1 rfl
theorem q35_1 {d : Nat} {l0 : Option Value} {v : Int32} {st : List Value} {h : AH} {P : Option Value → AH → Prop} : a_at d (a_xm a_m35) 1 [l0, some (.int v)] st h P ↔ a_at d (a_xm a_m35) 2 [l0, some (.int v)] (.int v :: st) h P := h_iload_n dk_2p_3.2.1 rfl
theorem q35_2 {d : Nat} {ls : AL} {v w : Int32} {st : List Value} {h : AH} {P : Option Value → AH → Prop} : a_at d (a_xm a_m35) 2 ls (.int w :: .int v :: st) h P ↔ (v < w → a_at d (a_xm a_m35) 9 ls st h P) ∧ (¬ (v < w) → a_at d (a_xm a_m35) 5 ls st h P) := h_if_icmp_lt dk_2p_3.2.2.1 (by decide)
theorem q35_5 {d : Nat} {l1 : Option Value} {v : Int32} {st : List Value} {h : AH} {P : Option Value → AH → Prop} : a_at d (a_xm a_m35) 5 [some (.int v), l1] st h P ↔ a_at d (a_xm a_m35) 6 [some (.int v), l1] (.int v :: st) h P := h_iload_n dk_2p_3.2.2.2.1 rfl
theorem q35_6 {d : Nat} {ls : AL} {st : List Value} {h : AH} {P : Option Value → AH → Prop} : a_at d (a_xm a_m35) 6 ls st h P ↔ a_at d (a_xm a_m35) 10 ls st h P := h_goto dk_2p_3.2.2.2.2.1 (by decide)
theorem q35_9 {d : Nat} {l0 : Option Value} {v : Int32} {st : List Value} {h : AH} {P : Option Value → AH → Prop} : a_at d (a_xm a_m35) 9 [l0, some (.int v)] st h P ↔ a_at d (a_xm a_m35) 10 [l0, some (.int v)] (.int v :: st) h P := h_iload_n dk_2p_3.2.2.2.2.2.1 rfl
theorem q35_10 {d : Nat} {ls : AL} {v : Int32} {h : AH} {P : Option Value → AH → Prop} : a_at d (a_xm a_m35) 10 ls [.int v] h P ↔ P (some (.int v)) h := h_ret dk_2p_3.2.2.2.2.2.2 rfl
/-! method 34 -/
theorem dk_2p_4 : (decode prog_16_method_69_code 0 = .ok (.iload_n 0, 1)) ∧ (decode prog_16_method_69_code 1 = .ok (.iload_n 1, 1)) ∧ (decode prog_16_method_69_code 2 = .ok (.if_icmp .gt 7, 3)) ∧ (decode prog_16_method_69_code 5 = .ok (.iload_n 0, 1)) ∧ (decode prog_16_method_69_code 6 = .ok (.goto 4, 3)) ∧ (decode prog_16_method_69_code 9 = .ok (.iload_n 1, 1)) ∧ (decode prog_16_method_69_code 10 = .ok (.ireturn, 1)) := by decide +kernel
theorem q34_0 {d : Nat} {l1 : Option Value} {v : Int32} {st : List Value} {h : AH} {P : Option Value → AH → Prop} : a_at d (a_xm a_m34) 0 [some (.int v), l1] st h P ↔ a_at d (a_xm a_m34) 1 [some (.int v), l1] (.int v :: st) h P := h_iload_n dk_2p_4.1 rfl
theorem q34_1 {d : Nat} {l0 : Option Value} {v : Int32} {st : List Value} {h : AH} {P : Option Value → AH → Prop} : a_at d (a_xm a_m34) 1 [l0, some (.int v)] st h P ↔ a_at d (a_xm a_m34) 2 [l0, some (.int v)] (.int v :: st) h P := h_iload_n dk_2p_4.2.1 rfl
theorem q34_2 {d : Nat} {ls : AL} {v w : Int32} {st : List Value} {h : AH} {P : Option Value → AH → Prop} : a_at d (a_xm a_m34) 2 ls (.int w :: .int v :: st) h P ↔ (w < v → a_at d (a_xm a_m34) 9 ls st h P) ∧ (¬ (w < v) → a_at d (a_xm a_m34) 5 ls st h P) := h_if_icmp_gt dk_2p_4.2.2.1 (by decide)
theorem q34_5 {d : Nat} {l1 : Option Value} {v : Int32} {st : List Value} {h : AH} {P : Option Value → AH → Prop} : a_at d (a_xm a_m34) 5 [some (.int v), l1] st h P ↔ a_at d (a_xm a_m34) 6 [some (.int v), l1] (.int v :: st) h P := h_iload_n dk_2p_4.2.2.2.1 rfl
theorem q34_6 {d : Nat} {ls : AL} {st : List Value} {h : AH} {P : Option Value → AH → Prop} : a_at d (a_xm a_m34) 6 ls st h P ↔ a_at d (a_xm a_m34) 10 ls st h P := h_goto dk_2p_4.2.2.2.2.1 (by decide)
theorem q34_9 {d : Nat} {l0 : Option Value} {v : Int32} {st : List Value} {h : AH} {P : Option Value → AH → Prop} : a_at d (a_xm a_m34) 9 [l0, some (.int v)] st h P ↔ a_at d (a_xm a_m34) 10 [l0, some (.int v)] (.int v :: st) h P := h_iload_n dk_2p_4.2.2.2.2.2.1 rfl
theorem q34_10 {d : Nat} {ls : AL} {v : Int32} {h : AH} {P : Option Value → AH → Prop} : a_at d (a_xm a_m34) 10 ls [.int v] h P ↔ P (some (.int v)) h := h_ret dk_2p_4.2.2.2.2.2.2 rfl
end
section
/-! the reference: its object at M, its arrays behind it, in the order of its initialisers: slot, offset, kind, length -/
def m_arr : List (Nat × Nat × Nat × Nat) := [(1, 1, 20, 200), (3, 2, 20, 20), (4, 3, 20, 20), (5, 4, 20, 20), (7, 5, 20, 6), (8, 6, 20, 6), (18, 7, 20, 30), (19, 8, 20, 30), (20, 9, 20, 30), (21, 10, 20, 30), (22, 11, 20, 30), (23, 12, 20, 30), (24, 13, 20, 30), (25, 14, 20, 30), (26, 15, 20, 30), (27, 16, 20, 30), (28, 17, 20, 30), (29, 18, 21, 30), (30, 19, 21, 30), (31, 20, 20, 30), (32, 21, 20, 30), (33, 22, 20, 120), (34, 23, 20, 7), (36, 24, 20, 84000), (37, 25, 20, 84000), (38, 26, 20, 84000), (39, 27, 20, 50), (42, 28, 20, 1000), (43, 29, 20, 20), (44, 30, 20, 20), (45, 31, 20, 20), (52, 32, 20, 9), (53, 33, 21, 60), (55, 34, 20, 60), (57, 35, 21, 60), (58, 36, 20, 180), (59, 37, 21, 180), (60, 38, 21, 180), (62, 39, 20, 30), (63, 40, 20, 30), (65, 41, 20, 4), (67, 42, 20, 5), (68, 43, 20, 5), (69, 44, 20, 4), (70, 45, 20, 30), (71, 46, 20, 30), (72, 47, 21, 900), (73, 48, 20, 6), (75, 49, 20, 6), (76, 50, 20, 6), (77, 51, 20, 24), (78, 52, 20, 21)]
def m_S (M : Nat) (K L : Nat → Nat) (R : Nat → Nat → Nat) : Prop := ¬ M = 0 ∧ K M = 13 ∧ ∀ q ∈ m_arr, R M q.1 = M + q.2.1 ∧ K (M + q.2.1) = q.2.2.1 ∧ L (M + q.2.1) = q.2.2.2
section ML
variable {M : Nat} {K L : Nat → Nat} {R : Nat → Nat → Nat}
theorem m_0 (h : m_S M K L R) : ¬ M = 0 := h.1
theorem m_K (h : m_S M K L R) : K M = 13 := h.2.1
theorem mR_modes (h : m_S M K L R) : R M 1 = M + 1 := (h.2.2 _ (List.mem_of_getElem? (i := 0) rfl)).1
theorem mK_modes (h : m_S M K L R) : K (M + 1) = 20 := (h.2.2 _ (List.mem_of_getElem? (i := 0) rfl)).2.1
theorem mL_modes (h : m_S M K L R) : L (M + 1) = 200 := (h.2.2 _ (List.mem_of_getElem? (i := 0) rfl)).2.2
theorem mR_tHour (h : m_S M K L R) : R M 3 = M + 2 := (h.2.2 _ (List.mem_of_getElem? (i := 1) rfl)).1
theorem mK_tHour (h : m_S M K L R) : K (M + 2) = 20 := (h.2.2 _ (List.mem_of_getElem? (i := 1) rfl)).2.1
theorem mL_tHour (h : m_S M K L R) : L (M + 2) = 20 := (h.2.2 _ (List.mem_of_getElem? (i := 1) rfl)).2.2
theorem mR_tMany (h : m_S M K L R) : R M 4 = M + 3 := (h.2.2 _ (List.mem_of_getElem? (i := 2) rfl)).1
theorem mK_tMany (h : m_S M K L R) : K (M + 3) = 20 := (h.2.2 _ (List.mem_of_getElem? (i := 2) rfl)).2.1
theorem mL_tMany (h : m_S M K L R) : L (M + 3) = 20 := (h.2.2 _ (List.mem_of_getElem? (i := 2) rfl)).2.2
theorem mR_tFound (h : m_S M K L R) : R M 5 = M + 4 := (h.2.2 _ (List.mem_of_getElem? (i := 3) rfl)).1
theorem mK_tFound (h : m_S M K L R) : K (M + 4) = 20 := (h.2.2 _ (List.mem_of_getElem? (i := 3) rfl)).2.1
theorem mL_tFound (h : m_S M K L R) : L (M + 4) = 20 := (h.2.2 _ (List.mem_of_getElem? (i := 3) rfl)).2.2
theorem mR_can (h : m_S M K L R) : R M 7 = M + 5 := (h.2.2 _ (List.mem_of_getElem? (i := 4) rfl)).1
theorem mK_can (h : m_S M K L R) : K (M + 5) = 20 := (h.2.2 _ (List.mem_of_getElem? (i := 4) rfl)).2.1
theorem mL_can (h : m_S M K L R) : L (M + 5) = 6 := (h.2.2 _ (List.mem_of_getElem? (i := 4) rfl)).2.2
theorem mR_hostsOf (h : m_S M K L R) : R M 8 = M + 6 := (h.2.2 _ (List.mem_of_getElem? (i := 5) rfl)).1
theorem mK_hostsOf (h : m_S M K L R) : K (M + 6) = 20 := (h.2.2 _ (List.mem_of_getElem? (i := 5) rfl)).2.1
theorem mL_hostsOf (h : m_S M K L R) : L (M + 6) = 6 := (h.2.2 _ (List.mem_of_getElem? (i := 5) rfl)).2.2
theorem mR_kind (h : m_S M K L R) : R M 18 = M + 7 := (h.2.2 _ (List.mem_of_getElem? (i := 6) rfl)).1
theorem mK_kind (h : m_S M K L R) : K (M + 7) = 20 := (h.2.2 _ (List.mem_of_getElem? (i := 6) rfl)).2.1
theorem mL_kind (h : m_S M K L R) : L (M + 7) = 30 := (h.2.2 _ (List.mem_of_getElem? (i := 6) rfl)).2.2
theorem mR_group (h : m_S M K L R) : R M 19 = M + 8 := (h.2.2 _ (List.mem_of_getElem? (i := 7) rfl)).1
theorem mK_group (h : m_S M K L R) : K (M + 8) = 20 := (h.2.2 _ (List.mem_of_getElem? (i := 7) rfl)).2.1
theorem mL_group (h : m_S M K L R) : L (M + 8) = 30 := (h.2.2 _ (List.mem_of_getElem? (i := 7) rfl)).2.2
theorem mR_land (h : m_S M K L R) : R M 20 = M + 9 := (h.2.2 _ (List.mem_of_getElem? (i := 8) rfl)).1
theorem mK_land (h : m_S M K L R) : K (M + 9) = 20 := (h.2.2 _ (List.mem_of_getElem? (i := 8) rfl)).2.1
theorem mL_land (h : m_S M K L R) : L (M + 9) = 30 := (h.2.2 _ (List.mem_of_getElem? (i := 8) rfl)).2.2
theorem mR_length (h : m_S M K L R) : R M 21 = M + 10 := (h.2.2 _ (List.mem_of_getElem? (i := 9) rfl)).1
theorem mK_length (h : m_S M K L R) : K (M + 10) = 20 := (h.2.2 _ (List.mem_of_getElem? (i := 9) rfl)).2.1
theorem mL_length (h : m_S M K L R) : L (M + 10) = 30 := (h.2.2 _ (List.mem_of_getElem? (i := 9) rfl)).2.2
theorem mR_wants (h : m_S M K L R) : R M 22 = M + 11 := (h.2.2 _ (List.mem_of_getElem? (i := 10) rfl)).1
theorem mK_wants (h : m_S M K L R) : K (M + 11) = 20 := (h.2.2 _ (List.mem_of_getElem? (i := 10) rfl)).2.1
theorem mL_wants (h : m_S M K L R) : L (M + 11) = 30 := (h.2.2 _ (List.mem_of_getElem? (i := 10) rfl)).2.2
theorem mR_benchSet (h : m_S M K L R) : R M 23 = M + 12 := (h.2.2 _ (List.mem_of_getElem? (i := 11) rfl)).1
theorem mK_benchSet (h : m_S M K L R) : K (M + 12) = 20 := (h.2.2 _ (List.mem_of_getElem? (i := 11) rfl)).2.1
theorem mL_benchSet (h : m_S M K L R) : L (M + 12) = 30 := (h.2.2 _ (List.mem_of_getElem? (i := 11) rfl)).2.2
theorem mR_modeSet (h : m_S M K L R) : R M 24 = M + 13 := (h.2.2 _ (List.mem_of_getElem? (i := 12) rfl)).1
theorem mK_modeSet (h : m_S M K L R) : K (M + 13) = 20 := (h.2.2 _ (List.mem_of_getElem? (i := 12) rfl)).2.1
theorem mL_modeSet (h : m_S M K L R) : L (M + 13) = 30 := (h.2.2 _ (List.mem_of_getElem? (i := 12) rfl)).2.2
theorem mR_gear (h : m_S M K L R) : R M 25 = M + 14 := (h.2.2 _ (List.mem_of_getElem? (i := 13) rfl)).1
theorem mK_gear (h : m_S M K L R) : K (M + 14) = 20 := (h.2.2 _ (List.mem_of_getElem? (i := 13) rfl)).2.1
theorem mL_gear (h : m_S M K L R) : L (M + 14) = 30 := (h.2.2 _ (List.mem_of_getElem? (i := 13) rfl)).2.2
theorem mR_danger (h : m_S M K L R) : R M 26 = M + 15 := (h.2.2 _ (List.mem_of_getElem? (i := 14) rfl)).1
theorem mK_danger (h : m_S M K L R) : K (M + 15) = 20 := (h.2.2 _ (List.mem_of_getElem? (i := 14) rfl)).2.1
theorem mL_danger (h : m_S M K L R) : L (M + 15) = 30 := (h.2.2 _ (List.mem_of_getElem? (i := 14) rfl)).2.2
theorem mR_xOf (h : m_S M K L R) : R M 27 = M + 16 := (h.2.2 _ (List.mem_of_getElem? (i := 15) rfl)).1
theorem mK_xOf (h : m_S M K L R) : K (M + 16) = 20 := (h.2.2 _ (List.mem_of_getElem? (i := 15) rfl)).2.1
theorem mL_xOf (h : m_S M K L R) : L (M + 16) = 30 := (h.2.2 _ (List.mem_of_getElem? (i := 15) rfl)).2.2
theorem mR_yOf (h : m_S M K L R) : R M 28 = M + 17 := (h.2.2 _ (List.mem_of_getElem? (i := 16) rfl)).1
theorem mK_yOf (h : m_S M K L R) : K (M + 17) = 20 := (h.2.2 _ (List.mem_of_getElem? (i := 16) rfl)).2.1
theorem mL_yOf (h : m_S M K L R) : L (M + 17) = 30 := (h.2.2 _ (List.mem_of_getElem? (i := 16) rfl)).2.2
theorem mR_isGone (h : m_S M K L R) : R M 29 = M + 18 := (h.2.2 _ (List.mem_of_getElem? (i := 17) rfl)).1
theorem mK_isGone (h : m_S M K L R) : K (M + 18) = 21 := (h.2.2 _ (List.mem_of_getElem? (i := 17) rfl)).2.1
theorem mL_isGone (h : m_S M K L R) : L (M + 18) = 30 := (h.2.2 _ (List.mem_of_getElem? (i := 17) rfl)).2.2
theorem mR_wasOwed (h : m_S M K L R) : R M 30 = M + 19 := (h.2.2 _ (List.mem_of_getElem? (i := 18) rfl)).1
theorem mK_wasOwed (h : m_S M K L R) : K (M + 19) = 21 := (h.2.2 _ (List.mem_of_getElem? (i := 18) rfl)).2.1
theorem mL_wasOwed (h : m_S M K L R) : L (M + 19) = 30 := (h.2.2 _ (List.mem_of_getElem? (i := 18) rfl)).2.2
theorem mR_atBench (h : m_S M K L R) : R M 31 = M + 20 := (h.2.2 _ (List.mem_of_getElem? (i := 19) rfl)).1
theorem mK_atBench (h : m_S M K L R) : K (M + 20) = 20 := (h.2.2 _ (List.mem_of_getElem? (i := 19) rfl)).2.1
theorem mL_atBench (h : m_S M K L R) : L (M + 20) = 30 := (h.2.2 _ (List.mem_of_getElem? (i := 19) rfl)).2.2
theorem mR_atShift (h : m_S M K L R) : R M 32 = M + 21 := (h.2.2 _ (List.mem_of_getElem? (i := 20) rfl)).1
theorem mK_atShift (h : m_S M K L R) : K (M + 21) = 20 := (h.2.2 _ (List.mem_of_getElem? (i := 20) rfl)).2.1
theorem mL_atShift (h : m_S M K L R) : L (M + 21) = 30 := (h.2.2 _ (List.mem_of_getElem? (i := 20) rfl)).2.2
theorem mR_standing (h : m_S M K L R) : R M 33 = M + 22 := (h.2.2 _ (List.mem_of_getElem? (i := 21) rfl)).1
theorem mK_standing (h : m_S M K L R) : K (M + 22) = 20 := (h.2.2 _ (List.mem_of_getElem? (i := 21) rfl)).2.1
theorem mL_standing (h : m_S M K L R) : L (M + 22) = 120 := (h.2.2 _ (List.mem_of_getElem? (i := 21) rfl)).2.2
theorem mR_refused (h : m_S M K L R) : R M 34 = M + 23 := (h.2.2 _ (List.mem_of_getElem? (i := 22) rfl)).1
theorem mK_refused (h : m_S M K L R) : K (M + 23) = 20 := (h.2.2 _ (List.mem_of_getElem? (i := 22) rfl)).2.1
theorem mL_refused (h : m_S M K L R) : L (M + 23) = 7 := (h.2.2 _ (List.mem_of_getElem? (i := 22) rfl)).2.2
theorem mR_eWhere (h : m_S M K L R) : R M 36 = M + 24 := (h.2.2 _ (List.mem_of_getElem? (i := 23) rfl)).1
theorem mK_eWhere (h : m_S M K L R) : K (M + 24) = 20 := (h.2.2 _ (List.mem_of_getElem? (i := 23) rfl)).2.1
theorem mL_eWhere (h : m_S M K L R) : L (M + 24) = 84000 := (h.2.2 _ (List.mem_of_getElem? (i := 23) rfl)).2.2
theorem mR_eHour (h : m_S M K L R) : R M 37 = M + 25 := (h.2.2 _ (List.mem_of_getElem? (i := 24) rfl)).1
theorem mK_eHour (h : m_S M K L R) : K (M + 25) = 20 := (h.2.2 _ (List.mem_of_getElem? (i := 24) rfl)).2.1
theorem mL_eHour (h : m_S M K L R) : L (M + 25) = 84000 := (h.2.2 _ (List.mem_of_getElem? (i := 24) rfl)).2.2
theorem mR_eAsk (h : m_S M K L R) : R M 38 = M + 26 := (h.2.2 _ (List.mem_of_getElem? (i := 25) rfl)).1
theorem mK_eAsk (h : m_S M K L R) : K (M + 26) = 20 := (h.2.2 _ (List.mem_of_getElem? (i := 25) rfl)).2.1
theorem mL_eAsk (h : m_S M K L R) : L (M + 26) = 84000 := (h.2.2 _ (List.mem_of_getElem? (i := 25) rfl)).2.2
theorem mR_tape (h : m_S M K L R) : R M 39 = M + 27 := (h.2.2 _ (List.mem_of_getElem? (i := 26) rfl)).1
theorem mK_tape (h : m_S M K L R) : K (M + 27) = 20 := (h.2.2 _ (List.mem_of_getElem? (i := 26) rfl)).2.1
theorem mL_tape (h : m_S M K L R) : L (M + 27) = 50 := (h.2.2 _ (List.mem_of_getElem? (i := 26) rfl)).2.2
theorem mR_written (h : m_S M K L R) : R M 42 = M + 28 := (h.2.2 _ (List.mem_of_getElem? (i := 27) rfl)).1
theorem mK_written (h : m_S M K L R) : K (M + 28) = 20 := (h.2.2 _ (List.mem_of_getElem? (i := 27) rfl)).2.1
theorem mL_written (h : m_S M K L R) : L (M + 28) = 1000 := (h.2.2 _ (List.mem_of_getElem? (i := 27) rfl)).2.2
theorem mR_writtenMany (h : m_S M K L R) : R M 43 = M + 29 := (h.2.2 _ (List.mem_of_getElem? (i := 28) rfl)).1
theorem mK_writtenMany (h : m_S M K L R) : K (M + 29) = 20 := (h.2.2 _ (List.mem_of_getElem? (i := 28) rfl)).2.1
theorem mL_writtenMany (h : m_S M K L R) : L (M + 29) = 20 := (h.2.2 _ (List.mem_of_getElem? (i := 28) rfl)).2.2
theorem mR_textFrom (h : m_S M K L R) : R M 44 = M + 30 := (h.2.2 _ (List.mem_of_getElem? (i := 29) rfl)).1
theorem mK_textFrom (h : m_S M K L R) : K (M + 30) = 20 := (h.2.2 _ (List.mem_of_getElem? (i := 29) rfl)).2.1
theorem mL_textFrom (h : m_S M K L R) : L (M + 30) = 20 := (h.2.2 _ (List.mem_of_getElem? (i := 29) rfl)).2.2
theorem mR_struckFrom (h : m_S M K L R) : R M 45 = M + 31 := (h.2.2 _ (List.mem_of_getElem? (i := 30) rfl)).1
theorem mK_struckFrom (h : m_S M K L R) : K (M + 31) = 20 := (h.2.2 _ (List.mem_of_getElem? (i := 30) rfl)).2.1
theorem mL_struckFrom (h : m_S M K L R) : L (M + 31) = 20 := (h.2.2 _ (List.mem_of_getElem? (i := 30) rfl)).2.2
theorem mR_facts (h : m_S M K L R) : R M 52 = M + 32 := (h.2.2 _ (List.mem_of_getElem? (i := 31) rfl)).1
theorem mK_facts (h : m_S M K L R) : K (M + 32) = 20 := (h.2.2 _ (List.mem_of_getElem? (i := 31) rfl)).2.1
theorem mL_facts (h : m_S M K L R) : L (M + 32) = 9 := (h.2.2 _ (List.mem_of_getElem? (i := 31) rfl)).2.2
theorem mR_values (h : m_S M K L R) : R M 53 = M + 33 := (h.2.2 _ (List.mem_of_getElem? (i := 32) rfl)).1
theorem mK_values (h : m_S M K L R) : K (M + 33) = 21 := (h.2.2 _ (List.mem_of_getElem? (i := 32) rfl)).2.1
theorem mL_values (h : m_S M K L R) : L (M + 33) = 60 := (h.2.2 _ (List.mem_of_getElem? (i := 32) rfl)).2.2
theorem mR_signs (h : m_S M K L R) : R M 55 = M + 34 := (h.2.2 _ (List.mem_of_getElem? (i := 33) rfl)).1
theorem mK_signs (h : m_S M K L R) : K (M + 34) = 20 := (h.2.2 _ (List.mem_of_getElem? (i := 33) rfl)).2.1
theorem mL_signs (h : m_S M K L R) : L (M + 34) = 60 := (h.2.2 _ (List.mem_of_getElem? (i := 33) rfl)).2.2
theorem mR_isKin (h : m_S M K L R) : R M 57 = M + 35 := (h.2.2 _ (List.mem_of_getElem? (i := 34) rfl)).1
theorem mK_isKin (h : m_S M K L R) : K (M + 35) = 21 := (h.2.2 _ (List.mem_of_getElem? (i := 34) rfl)).2.1
theorem mL_isKin (h : m_S M K L R) : L (M + 35) = 60 := (h.2.2 _ (List.mem_of_getElem? (i := 34) rfl)).2.2
theorem mR_marks (h : m_S M K L R) : R M 58 = M + 36 := (h.2.2 _ (List.mem_of_getElem? (i := 35) rfl)).1
theorem mK_marks (h : m_S M K L R) : K (M + 36) = 20 := (h.2.2 _ (List.mem_of_getElem? (i := 35) rfl)).2.1
theorem mL_marks (h : m_S M K L R) : L (M + 36) = 180 := (h.2.2 _ (List.mem_of_getElem? (i := 35) rfl)).2.2
theorem mR_isMarked (h : m_S M K L R) : R M 59 = M + 37 := (h.2.2 _ (List.mem_of_getElem? (i := 36) rfl)).1
theorem mK_isMarked (h : m_S M K L R) : K (M + 37) = 21 := (h.2.2 _ (List.mem_of_getElem? (i := 36) rfl)).2.1
theorem mL_isMarked (h : m_S M K L R) : L (M + 37) = 180 := (h.2.2 _ (List.mem_of_getElem? (i := 36) rfl)).2.2
theorem mR_doesCount (h : m_S M K L R) : R M 60 = M + 38 := (h.2.2 _ (List.mem_of_getElem? (i := 37) rfl)).1
theorem mK_doesCount (h : m_S M K L R) : K (M + 38) = 21 := (h.2.2 _ (List.mem_of_getElem? (i := 37) rfl)).2.1
theorem mL_doesCount (h : m_S M K L R) : L (M + 38) = 180 := (h.2.2 _ (List.mem_of_getElem? (i := 37) rfl)).2.2
theorem mR_passedAsk (h : m_S M K L R) : R M 62 = M + 39 := (h.2.2 _ (List.mem_of_getElem? (i := 38) rfl)).1
theorem mK_passedAsk (h : m_S M K L R) : K (M + 39) = 20 := (h.2.2 _ (List.mem_of_getElem? (i := 38) rfl)).2.1
theorem mL_passedAsk (h : m_S M K L R) : L (M + 39) = 30 := (h.2.2 _ (List.mem_of_getElem? (i := 38) rfl)).2.2
theorem mR_order (h : m_S M K L R) : R M 63 = M + 40 := (h.2.2 _ (List.mem_of_getElem? (i := 39) rfl)).1
theorem mK_order (h : m_S M K L R) : K (M + 40) = 20 := (h.2.2 _ (List.mem_of_getElem? (i := 39) rfl)).2.1
theorem mL_order (h : m_S M K L R) : L (M + 40) = 30 := (h.2.2 _ (List.mem_of_getElem? (i := 39) rfl)).2.2
theorem mR_few (h : m_S M K L R) : R M 65 = M + 41 := (h.2.2 _ (List.mem_of_getElem? (i := 40) rfl)).1
theorem mK_few (h : m_S M K L R) : K (M + 41) = 20 := (h.2.2 _ (List.mem_of_getElem? (i := 40) rfl)).2.1
theorem mL_few (h : m_S M K L R) : L (M + 41) = 4 := (h.2.2 _ (List.mem_of_getElem? (i := 40) rfl)).2.2
theorem mR_way (h : m_S M K L R) : R M 67 = M + 42 := (h.2.2 _ (List.mem_of_getElem? (i := 41) rfl)).1
theorem mK_way (h : m_S M K L R) : K (M + 42) = 20 := (h.2.2 _ (List.mem_of_getElem? (i := 41) rfl)).2.1
theorem mL_way (h : m_S M K L R) : L (M + 42) = 5 := (h.2.2 _ (List.mem_of_getElem? (i := 41) rfl)).2.2
theorem mR_sumTo (h : m_S M K L R) : R M 68 = M + 43 := (h.2.2 _ (List.mem_of_getElem? (i := 42) rfl)).1
theorem mK_sumTo (h : m_S M K L R) : K (M + 43) = 20 := (h.2.2 _ (List.mem_of_getElem? (i := 42) rfl)).2.1
theorem mL_sumTo (h : m_S M K L R) : L (M + 43) = 5 := (h.2.2 _ (List.mem_of_getElem? (i := 42) rfl)).2.2
theorem mR_bestWay (h : m_S M K L R) : R M 69 = M + 44 := (h.2.2 _ (List.mem_of_getElem? (i := 43) rfl)).1
theorem mK_bestWay (h : m_S M K L R) : K (M + 44) = 20 := (h.2.2 _ (List.mem_of_getElem? (i := 43) rfl)).2.1
theorem mL_bestWay (h : m_S M K L R) : L (M + 44) = 4 := (h.2.2 _ (List.mem_of_getElem? (i := 43) rfl)).2.2
theorem mR_wasBench (h : m_S M K L R) : R M 70 = M + 45 := (h.2.2 _ (List.mem_of_getElem? (i := 44) rfl)).1
theorem mK_wasBench (h : m_S M K L R) : K (M + 45) = 20 := (h.2.2 _ (List.mem_of_getElem? (i := 44) rfl)).2.1
theorem mL_wasBench (h : m_S M K L R) : L (M + 45) = 30 := (h.2.2 _ (List.mem_of_getElem? (i := 44) rfl)).2.2
theorem mR_wasShift (h : m_S M K L R) : R M 71 = M + 46 := (h.2.2 _ (List.mem_of_getElem? (i := 45) rfl)).1
theorem mK_wasShift (h : m_S M K L R) : K (M + 46) = 20 := (h.2.2 _ (List.mem_of_getElem? (i := 45) rfl)).2.1
theorem mL_wasShift (h : m_S M K L R) : L (M + 46) = 30 := (h.2.2 _ (List.mem_of_getElem? (i := 45) rfl)).2.2
theorem mR_isWish (h : m_S M K L R) : R M 72 = M + 47 := (h.2.2 _ (List.mem_of_getElem? (i := 46) rfl)).1
theorem mK_isWish (h : m_S M K L R) : K (M + 47) = 21 := (h.2.2 _ (List.mem_of_getElem? (i := 46) rfl)).2.1
theorem mL_isWish (h : m_S M K L R) : L (M + 47) = 900 := (h.2.2 _ (List.mem_of_getElem? (i := 46) rfl)).2.2
theorem mR_ringAsk (h : m_S M K L R) : R M 73 = M + 48 := (h.2.2 _ (List.mem_of_getElem? (i := 47) rfl)).1
theorem mK_ringAsk (h : m_S M K L R) : K (M + 48) = 20 := (h.2.2 _ (List.mem_of_getElem? (i := 47) rfl)).2.1
theorem mL_ringAsk (h : m_S M K L R) : L (M + 48) = 6 := (h.2.2 _ (List.mem_of_getElem? (i := 47) rfl)).2.2
theorem mR_oldBench (h : m_S M K L R) : R M 75 = M + 49 := (h.2.2 _ (List.mem_of_getElem? (i := 48) rfl)).1
theorem mK_oldBench (h : m_S M K L R) : K (M + 49) = 20 := (h.2.2 _ (List.mem_of_getElem? (i := 48) rfl)).2.1
theorem mL_oldBench (h : m_S M K L R) : L (M + 49) = 6 := (h.2.2 _ (List.mem_of_getElem? (i := 48) rfl)).2.2
theorem mR_oldShift (h : m_S M K L R) : R M 76 = M + 50 := (h.2.2 _ (List.mem_of_getElem? (i := 49) rfl)).1
theorem mK_oldShift (h : m_S M K L R) : K (M + 50) = 20 := (h.2.2 _ (List.mem_of_getElem? (i := 49) rfl)).2.1
theorem mL_oldShift (h : m_S M K L R) : L (M + 50) = 6 := (h.2.2 _ (List.mem_of_getElem? (i := 49) rfl)).2.2
theorem mR_oldStanding (h : m_S M K L R) : R M 77 = M + 51 := (h.2.2 _ (List.mem_of_getElem? (i := 50) rfl)).1
theorem mK_oldStanding (h : m_S M K L R) : K (M + 51) = 20 := (h.2.2 _ (List.mem_of_getElem? (i := 50) rfl)).2.1
theorem mL_oldStanding (h : m_S M K L R) : L (M + 51) = 24 := (h.2.2 _ (List.mem_of_getElem? (i := 50) rfl)).2.2
theorem mR_row (h : m_S M K L R) : R M 78 = M + 52 := (h.2.2 _ (List.mem_of_getElem? (i := 51) rfl)).1
theorem mK_row (h : m_S M K L R) : K (M + 52) = 20 := (h.2.2 _ (List.mem_of_getElem? (i := 51) rfl)).2.1
theorem mL_row (h : m_S M K L R) : L (M + 52) = 21 := (h.2.2 _ (List.mem_of_getElem? (i := 51) rfl)).2.2
theorem m_n (a b : Nat) (h : ¬ b = 0) : (a + b = 0) = False := eq_false (by omega)
end ML
end
section
/-! small rules -/
theorem ui_ap (f : Nat → Nat → Int32) (a k : Nat) (v : Int32) (x j : Nat) : a_ui f a k v x j = if x = a ∧ j = k then v else f x j := rfl
theorem ur_ap (f : Nat → Nat → Nat) (a k : Nat) (v : Nat) (x j : Nat) : a_ur f a k v x j = if x = a ∧ j = k then v else f x j := rfl
theorem ok_n {i : Int32} {n : Nat} (k : Int32) (hk : k.toInt = n) : a_ok i n ↔ 0 ≤ i ∧ i < k := by
  unfold a_ok
  rw [not_or, Int32.not_lt, Nat.not_le, Int32.lt_iff_toInt_lt, hk, Int32.le_iff_toInt_le]
  show (0 ≤ i.toInt ∧ i.toInt.toNat < n) ↔ (0 ≤ i.toInt ∧ i.toInt < n)
  omega
theorem ok_4 (i : Int32) : a_ok i 4 ↔ 0 ≤ i ∧ i < 4 := ok_n 4 rfl
theorem ok_5 (i : Int32) : a_ok i 5 ↔ 0 ≤ i ∧ i < 5 := ok_n 5 rfl
theorem ok_6 (i : Int32) : a_ok i 6 ↔ 0 ≤ i ∧ i < 6 := ok_n 6 rfl
theorem ok_7 (i : Int32) : a_ok i 7 ↔ 0 ≤ i ∧ i < 7 := ok_n 7 rfl
theorem ok_9 (i : Int32) : a_ok i 9 ↔ 0 ≤ i ∧ i < 9 := ok_n 9 rfl
theorem ok_10 (i : Int32) : a_ok i 10 ↔ 0 ≤ i ∧ i < 10 := ok_n 10 rfl
theorem ok_20 (i : Int32) : a_ok i 20 ↔ 0 ≤ i ∧ i < 20 := ok_n 20 rfl
theorem ok_21 (i : Int32) : a_ok i 21 ↔ 0 ≤ i ∧ i < 21 := ok_n 21 rfl
theorem ok_24 (i : Int32) : a_ok i 24 ↔ 0 ≤ i ∧ i < 24 := ok_n 24 rfl
theorem ok_30 (i : Int32) : a_ok i 30 ↔ 0 ≤ i ∧ i < 30 := ok_n 30 rfl
theorem ok_48 (i : Int32) : a_ok i 48 ↔ 0 ≤ i ∧ i < 48 := ok_n 48 rfl
theorem ok_50 (i : Int32) : a_ok i 50 ↔ 0 ≤ i ∧ i < 50 := ok_n 50 rfl
theorem ok_60 (i : Int32) : a_ok i 60 ↔ 0 ≤ i ∧ i < 60 := ok_n 60 rfl
theorem ok_80 (i : Int32) : a_ok i 80 ↔ 0 ≤ i ∧ i < 80 := ok_n 80 rfl
theorem ok_120 (i : Int32) : a_ok i 120 ↔ 0 ≤ i ∧ i < 120 := ok_n 120 rfl
theorem ok_180 (i : Int32) : a_ok i 180 ↔ 0 ≤ i ∧ i < 180 := ok_n 180 rfl
theorem ok_192 (i : Int32) : a_ok i 192 ↔ 0 ≤ i ∧ i < 192 := ok_n 192 rfl
theorem ok_200 (i : Int32) : a_ok i 200 ↔ 0 ≤ i ∧ i < 200 := ok_n 200 rfl
theorem ok_900 (i : Int32) : a_ok i 900 ↔ 0 ≤ i ∧ i < 900 := ok_n 900 rfl
theorem ok_1000 (i : Int32) : a_ok i 1000 ↔ 0 ≤ i ∧ i < 1000 := ok_n 1000 rfl
theorem ok_84000 (i : Int32) : a_ok i 84000 ↔ 0 ≤ i ∧ i < 84000 := ok_n 84000 rfl
theorem ti_0 (c : Int32) : (c.toInt = 0) = (c = 0) := propext ⟨fun h => Int32.toInt_inj.mp (by rw [h]; rfl), fun h => by subst h; rfl⟩
theorem ti_1 (c : Int32) : (c.toInt = 1) = (c = 1) := propext ⟨fun h => Int32.toInt_inj.mp (by rw [h]; rfl), fun h => by subst h; rfl⟩
theorem ti_2 (c : Int32) : (c.toInt = 2) = (c = 2) := propext ⟨fun h => Int32.toInt_inj.mp (by rw [h]; rfl), fun h => by subst h; rfl⟩
theorem ti_3 (c : Int32) : (c.toInt = 3) = (c = 3) := propext ⟨fun h => Int32.toInt_inj.mp (by rw [h]; rfl), fun h => by subst h; rfl⟩
theorem ti_4 (c : Int32) : (c.toInt = 4) = (c = 4) := propext ⟨fun h => Int32.toInt_inj.mp (by rw [h]; rfl), fun h => by subst h; rfl⟩
theorem ti_5 (c : Int32) : (c.toInt = 5) = (c = 5) := propext ⟨fun h => Int32.toInt_inj.mp (by rw [h]; rfl), fun h => by subst h; rfl⟩
theorem ti_6 (c : Int32) : (c.toInt = 6) = (c = 6) := propext ⟨fun h => Int32.toInt_inj.mp (by rw [h]; rfl), fun h => by subst h; rfl⟩
theorem ti_7 (c : Int32) : (c.toInt = 7) = (c = 7) := propext ⟨fun h => Int32.toInt_inj.mp (by rw [h]; rfl), fun h => by subst h; rfl⟩
theorem ti_8 (c : Int32) : (c.toInt = 8) = (c = 8) := propext ⟨fun h => Int32.toInt_inj.mp (by rw [h]; rfl), fun h => by subst h; rfl⟩
theorem ti_9 (c : Int32) : (c.toInt = 9) = (c = 9) := propext ⟨fun h => Int32.toInt_inj.mp (by rw [h]; rfl), fun h => by subst h; rfl⟩
theorem ti_10 (c : Int32) : (c.toInt = 10) = (c = 10) := propext ⟨fun h => Int32.toInt_inj.mp (by rw [h]; rfl), fun h => by subst h; rfl⟩
theorem ti_11 (c : Int32) : (c.toInt = 11) = (c = 11) := propext ⟨fun h => Int32.toInt_inj.mp (by rw [h]; rfl), fun h => by subst h; rfl⟩
theorem ti_12 (c : Int32) : (c.toInt = 12) = (c = 12) := propext ⟨fun h => Int32.toInt_inj.mp (by rw [h]; rfl), fun h => by subst h; rfl⟩
theorem ti_13 (c : Int32) : (c.toInt = 13) = (c = 13) := propext ⟨fun h => Int32.toInt_inj.mp (by rw [h]; rfl), fun h => by subst h; rfl⟩
theorem ti_14 (c : Int32) : (c.toInt = 14) = (c = 14) := propext ⟨fun h => Int32.toInt_inj.mp (by rw [h]; rfl), fun h => by subst h; rfl⟩
theorem ti_15 (c : Int32) : (c.toInt = 15) = (c = 15) := propext ⟨fun h => Int32.toInt_inj.mp (by rw [h]; rfl), fun h => by subst h; rfl⟩
theorem ti_16 (c : Int32) : (c.toInt = 16) = (c = 16) := propext ⟨fun h => Int32.toInt_inj.mp (by rw [h]; rfl), fun h => by subst h; rfl⟩
theorem ti_17 (c : Int32) : (c.toInt = 17) = (c = 17) := propext ⟨fun h => Int32.toInt_inj.mp (by rw [h]; rfl), fun h => by subst h; rfl⟩
theorem ti_18 (c : Int32) : (c.toInt = 18) = (c = 18) := propext ⟨fun h => Int32.toInt_inj.mp (by rw [h]; rfl), fun h => by subst h; rfl⟩
theorem ti_19 (c : Int32) : (c.toInt = 19) = (c = 19) := propext ⟨fun h => Int32.toInt_inj.mp (by rw [h]; rfl), fun h => by subst h; rfl⟩
theorem ti_98 (c : Int32) : (c.toInt = 98) = (c = 98) := propext ⟨fun h => Int32.toInt_inj.mp (by rw [h]; rfl), fun h => by subst h; rfl⟩
theorem ti_99 (c : Int32) : (c.toInt = 99) = (c = 99) := propext ⟨fun h => Int32.toInt_inj.mp (by rw [h]; rfl), fun h => by subst h; rfl⟩
theorem ti_100 (c : Int32) : (c.toInt = 100) = (c = 100) := propext ⟨fun h => Int32.toInt_inj.mp (by rw [h]; rfl), fun h => by subst h; rfl⟩
theorem ti_101 (c : Int32) : (c.toInt = 101) = (c = 101) := propext ⟨fun h => Int32.toInt_inj.mp (by rw [h]; rfl), fun h => by subst h; rfl⟩
theorem ti_102 (c : Int32) : (c.toInt = 102) = (c = 102) := propext ⟨fun h => Int32.toInt_inj.mp (by rw [h]; rfl), fun h => by subst h; rfl⟩
theorem ti_103 (c : Int32) : (c.toInt = 103) = (c = 103) := propext ⟨fun h => Int32.toInt_inj.mp (by rw [h]; rfl), fun h => by subst h; rfl⟩
theorem ti_104 (c : Int32) : (c.toInt = 104) = (c = 104) := propext ⟨fun h => Int32.toInt_inj.mp (by rw [h]; rfl), fun h => by subst h; rfl⟩
theorem ti_105 (c : Int32) : (c.toInt = 105) = (c = 105) := propext ⟨fun h => Int32.toInt_inj.mp (by rw [h]; rfl), fun h => by subst h; rfl⟩
theorem ti_106 (c : Int32) : (c.toInt = 106) = (c = 106) := propext ⟨fun h => Int32.toInt_inj.mp (by rw [h]; rfl), fun h => by subst h; rfl⟩
theorem ti_107 (c : Int32) : (c.toInt = 107) = (c = 107) := propext ⟨fun h => Int32.toInt_inj.mp (by rw [h]; rfl), fun h => by subst h; rfl⟩
theorem ti_108 (c : Int32) : (c.toInt = 108) = (c = 108) := propext ⟨fun h => Int32.toInt_inj.mp (by rw [h]; rfl), fun h => by subst h; rfl⟩
theorem ti_109 (c : Int32) : (c.toInt = 109) = (c = 109) := propext ⟨fun h => Int32.toInt_inj.mp (by rw [h]; rfl), fun h => by subst h; rfl⟩
theorem ti_110 (c : Int32) : (c.toInt = 110) = (c = 110) := propext ⟨fun h => Int32.toInt_inj.mp (by rw [h]; rfl), fun h => by subst h; rfl⟩
theorem ti_111 (c : Int32) : (c.toInt = 111) = (c = 111) := propext ⟨fun h => Int32.toInt_inj.mp (by rw [h]; rfl), fun h => by subst h; rfl⟩
theorem ti_112 (c : Int32) : (c.toInt = 112) = (c = 112) := propext ⟨fun h => Int32.toInt_inj.mp (by rw [h]; rfl), fun h => by subst h; rfl⟩
theorem ti_113 (c : Int32) : (c.toInt = 113) = (c = 113) := propext ⟨fun h => Int32.toInt_inj.mp (by rw [h]; rfl), fun h => by subst h; rfl⟩
theorem ti_114 (c : Int32) : (c.toInt = 114) = (c = 114) := propext ⟨fun h => Int32.toInt_inj.mp (by rw [h]; rfl), fun h => by subst h; rfl⟩
theorem ti_115 (c : Int32) : (c.toInt = 115) = (c = 115) := propext ⟨fun h => Int32.toInt_inj.mp (by rw [h]; rfl), fun h => by subst h; rfl⟩
theorem ti_116 (c : Int32) : (c.toInt = 116) = (c = 116) := propext ⟨fun h => Int32.toInt_inj.mp (by rw [h]; rfl), fun h => by subst h; rfl⟩
theorem as_nil : a_sum [] = 0 := rfl
theorem as_i (v : Int32) (st : List Value) : a_sum (.int v :: st) = 1 + a_sum st := by simp [a_sum, Value.category]
theorem as_r (r : Nat) (st : List Value) : a_sum (a_rf r :: st) = 1 + a_sum st := by simp [a_sum, a_rf_cat]
theorem z_eq0 (c : Prop) [Decidable c] : ((if c then (1 : Int32) else 0) = 0) = ¬ c := by by_cases h : c <;> simp [h]
theorem z_eq1 (c : Prop) [Decidable c] : ((if c then (1 : Int32) else 0) = 1) = c := by by_cases h : c <;> simp [h]
theorem z_em (c : Prop) : (¬ c ∨ c) = True := eq_true (Classical.em c |>.symm)
theorem z_or (c : Prop) [Decidable c] : (((if c then (1 : Int32) else 0) = 0) ∨ ((if c then (1 : Int32) else 0) = 1)) = True := by by_cases h : c <;> simp [h]
theorem up_ind {Q : Int32 → Prop} (B : Int32) (h : ∀ s, s ≤ B → (s < B → Q (s + 1)) → Q s) : ∀ s, s ≤ B → Q s := by
  have : ∀ (z : Nat) (s : Int32), s ≤ B → (B.toInt - s.toInt).toNat = z → Q s := by
    intro z
    induction z with
    | zero =>
      intro s hs hz
      refine h s hs (fun hl => ?_)
      rw [Int32.lt_iff_toInt_lt] at hl
      omega
    | succ z ih =>
      intro s hs hz
      refine h s hs (fun hl => ih (s + 1) (by grind) ?_)
      have h1 : (s + 1).toInt = s.toInt + 1 := by
        rw [Int32.lt_iff_toInt_lt] at hl
        have h2 := Int32.toInt_lt B
        have h3 := Int32.le_toInt s
        rw [Int32.toInt_add]
        simp [Int.bmod_def]
        omega
      omega
  exact fun s hs => this _ s hs rfl
theorem dn_ind {Q : Int32 → Prop} (B : Int32) (h : ∀ s, B ≤ s → (B < s → Q (s + (-1))) → Q s) : ∀ s, B ≤ s → Q s := by
  have : ∀ (z : Nat) (s : Int32), B ≤ s → (s.toInt - B.toInt).toNat = z → Q s := by
    intro z
    induction z with
    | zero =>
      intro s hs hz
      refine h s hs (fun hl => ?_)
      rw [Int32.lt_iff_toInt_lt] at hl
      omega
    | succ z ih =>
      intro s hs hz
      refine h s hs (fun hl => ih (s + (-1)) (by grind) ?_)
      have h1 : (s + (-1)).toInt = s.toInt - 1 := by
        rw [Int32.lt_iff_toInt_lt] at hl
        have h2 := Int32.le_toInt B
        have h3 := Int32.toInt_lt s
        rw [Int32.toInt_add]
        simp [Int.bmod_def]
        omega
      omega
  exact fun s hs => this _ s hs rfl
theorem us_ind {Q : Int32 → Prop} (B : Int32) (h : ∀ s, s ≤ B → (∀ s', s < s' → s' ≤ B → Q s') → Q s) : ∀ s, s ≤ B → Q s := by
  have : ∀ (z : Nat) (s : Int32), s ≤ B → (B.toInt - s.toInt).toNat < z → Q s := by
    intro z
    induction z with
    | zero => intro s hs hz; omega
    | succ z ih =>
      intro s hs hz
      refine h s hs (fun s' h1 h2 => ih s' h2 ?_)
      rw [Int32.lt_iff_toInt_lt] at h1
      rw [Int32.le_iff_toInt_le] at h2
      omega
  exact fun s hs => this _ s hs (Nat.lt_succ_self _)
theorem lt_ind {Q : Int32 → Prop} (h : ∀ s, (∀ s', 0 ≤ s' → s' < s → Q s') → Q s) : ∀ s, Q s := by
  have : ∀ (z : Nat) (s : Int32), s.toInt.toNat < z → Q s := by
    intro z
    induction z with
    | zero => intro s hz; omega
    | succ z ih =>
      intro s hz
      refine h s (fun s' h1 h2 => ih s' ?_)
      rw [Int32.lt_iff_toInt_lt] at h2
      have h3 := Int32.le_iff_toInt_le.mp h1
      simp at h3
      omega
  exact fun s => this _ s (Nat.lt_succ_self _)
/-! what holds of the reference's numbers at all times -/
def mR (M : Nat) (J : Nat → Nat → Int32) : Prop :=
  (0 ≤ J M 0 ∧ J M 0 ≤ 1600) ∧
  (0 ≤ J M 2 ∧ J M 2 ≤ 20) ∧
  (0 ≤ J M 6 ∧ J M 6 ≤ 6) ∧
  (0 ≤ J M 17 ∧ J M 17 ≤ 30) ∧
  (0 ≤ J M 9 ∧ J M 9 ≤ 3) ∧
  (0 ≤ J M 13 ∧ J M 13 ≤ 9) ∧
  (0 ≤ J M 15 ∧ J M 15 ≤ 4) ∧
  (0 ≤ J M 40 ∧ J M 40 ≤ 50) ∧
  (0 ≤ J M 41 ∧ J M 41 ≤ 20) ∧
  (0 ≤ J M 61 ∧ J M 61 ≤ 30) ∧
  (0 ≤ J M 79 ∧ J M 79 ≤ 21) ∧
  (0 ≤ J M 35 ∧ J M 35 ≤ 84000) ∧
  (0 ≤ J M 47 ∧ J M 47 ≤ 950) ∧
  (∀ j, (0) ≤ J (M + 8) j ∧ J (M + 8) j ≤ 9) ∧
  (∀ j, (0) ≤ J (M + 10) j ∧ J (M + 10) j ≤ 4) ∧
  (∀ j, (-9) ≤ J (M + 20) j ∧ J (M + 20) j ≤ 5) ∧
  (∀ j, (-9) ≤ J (M + 21) j ∧ J (M + 21) j ≤ 200) ∧
  (∀ j, (0) ≤ J (M + 29) j ∧ J (M + 29) j ≤ 50) ∧
  (∀ j, (0) ≤ J (M + 40) j ∧ J (M + 40) j ≤ 29) ∧
  (∀ j, (0) ≤ J (M + 41) j ∧ J (M + 41) j ≤ 29) ∧
  (∀ j, (0) ≤ J (M + 44) j ∧ J (M + 44) j ≤ 48) ∧
  (∀ j, (-9) ≤ J (M + 49) j ∧ J (M + 49) j ≤ 5) ∧
  (∀ j, (-9) ≤ J (M + 50) j ∧ J (M + 50) j ≤ 200) ∧
  (∀ j, J (M + 7) j = 1 → 0 ≤ J (M + 16) j ∧ J (M + 16) j ≤ 29)
section RG
variable {M : Nat} {I J : Nat → Nat → Int32}
theorem rg_now (h : mR M J) : (0 ≤ J M 0 ∧ J M 0 ≤ 1600) := h.1
theorem rg_trips (h : mR M J) : (0 ≤ J M 2 ∧ J M 2 ≤ 20) := h.2.1
theorem rg_benches (h : mR M J) : (0 ≤ J M 6 ∧ J M 6 ≤ 6) := h.2.2.1
theorem rg_asks (h : mR M J) : (0 ≤ J M 17 ∧ J M 17 ≤ 30) := h.2.2.2.1
theorem rg_rest (h : mR M J) : (0 ≤ J M 9 ∧ J M 9 ≤ 3) := h.2.2.2.2.1
theorem rg_draftGroup (h : mR M J) : (0 ≤ J M 13 ∧ J M 13 ≤ 9) := h.2.2.2.2.2.1
theorem rg_draftLong (h : mR M J) : (0 ≤ J M 15 ∧ J M 15 ≤ 4) := h.2.2.2.2.2.2.1
theorem rg_tapeMany (h : mR M J) : (0 ≤ J M 40 ∧ J M 40 ≤ 50) := h.2.2.2.2.2.2.2.1
theorem rg_texts (h : mR M J) : (0 ≤ J M 41 ∧ J M 41 ≤ 20) := h.2.2.2.2.2.2.2.2.1
theorem rg_passedMany (h : mR M J) : (0 ≤ J M 61 ∧ J M 61 ≤ 30) := h.2.2.2.2.2.2.2.2.2.1
theorem rg_rowMany (h : mR M J) : (0 ≤ J M 79 ∧ J M 79 ≤ 21) := h.2.2.2.2.2.2.2.2.2.2.1
theorem rg_events (h : mR M J) : (0 ≤ J M 35 ∧ J M 35 ≤ 84000) := h.2.2.2.2.2.2.2.2.2.2.2.1
theorem rg_base (h : mR M J) : (0 ≤ J M 47 ∧ J M 47 ≤ 950) := h.2.2.2.2.2.2.2.2.2.2.2.2.1
theorem rg_group (h : mR M J) (j : Nat) : (0) ≤ J (M + 8) j ∧ J (M + 8) j ≤ 9 := (h.2.2.2.2.2.2.2.2.2.2.2.2.2.1) j
theorem rg_length (h : mR M J) (j : Nat) : (0) ≤ J (M + 10) j ∧ J (M + 10) j ≤ 4 := (h.2.2.2.2.2.2.2.2.2.2.2.2.2.2.1) j
theorem rg_atBench (h : mR M J) (j : Nat) : (-9) ≤ J (M + 20) j ∧ J (M + 20) j ≤ 5 := (h.2.2.2.2.2.2.2.2.2.2.2.2.2.2.2.1) j
theorem rg_atShift (h : mR M J) (j : Nat) : (-9) ≤ J (M + 21) j ∧ J (M + 21) j ≤ 200 := (h.2.2.2.2.2.2.2.2.2.2.2.2.2.2.2.2.1) j
theorem rg_writtenMany (h : mR M J) (j : Nat) : (0) ≤ J (M + 29) j ∧ J (M + 29) j ≤ 50 := (h.2.2.2.2.2.2.2.2.2.2.2.2.2.2.2.2.2.1) j
theorem rg_order (h : mR M J) (j : Nat) : (0) ≤ J (M + 40) j ∧ J (M + 40) j ≤ 29 := (h.2.2.2.2.2.2.2.2.2.2.2.2.2.2.2.2.2.2.1) j
theorem rg_few (h : mR M J) (j : Nat) : (0) ≤ J (M + 41) j ∧ J (M + 41) j ≤ 29 := (h.2.2.2.2.2.2.2.2.2.2.2.2.2.2.2.2.2.2.2.1) j
theorem rg_bestWay (h : mR M J) (j : Nat) : (0) ≤ J (M + 44) j ∧ J (M + 44) j ≤ 48 := (h.2.2.2.2.2.2.2.2.2.2.2.2.2.2.2.2.2.2.2.2.1) j
theorem rg_oldBench (h : mR M J) (j : Nat) : (-9) ≤ J (M + 49) j ∧ J (M + 49) j ≤ 5 := (h.2.2.2.2.2.2.2.2.2.2.2.2.2.2.2.2.2.2.2.2.2.1) j
theorem rg_oldShift (h : mR M J) (j : Nat) : (-9) ≤ J (M + 50) j ∧ J (M + 50) j ≤ 200 := (h.2.2.2.2.2.2.2.2.2.2.2.2.2.2.2.2.2.2.2.2.2.2.1) j
theorem rg_tied (h : mR M J) (j : Nat) : J (M + 7) j = 1 → 0 ≤ J (M + 16) j ∧ J (M + 16) j ≤ 29 := (h.2.2.2.2.2.2.2.2.2.2.2.2.2.2.2.2.2.2.2.2.2.2.2) j
/-- the reference's cells that only some calls may change, and all that isn't the reference's -/
def eC (M x j : Nat) : Prop := x < M ∨ M + 52 < x ∨ x = M + 1 ∨ x = M + 2 ∨ x = M + 3 ∨ x = M + 4 ∨ x = M + 5 ∨ x = M + 6 ∨ x = M + 35 ∨ x = M + 52 ∨ x = M + 27 ∨ x = M + 28 ∨ x = M + 29 ∨ x = M + 30 ∨ x = M + 31 ∨ (x = M ∧ (j = 0 ∨ j = 2 ∨ j = 6 ∨ j = 9 ∨ j = 10 ∨ j = 11 ∨ j = 79 ∨ j = 40 ∨ j = 41))
def fr (M : Nat) (I J : Nat → Nat → Int32) : Prop := ∀ x j, eC M x j → J x j = I x j
/-- the reader's own cells -/
def sC (M x j : Nat) : Prop := x = M + 32 ∨ x = M + 33 ∨ x = M + 34 ∨ (x = M ∧ (j = 46 ∨ j = 47 ∨ j = 48 ∨ j = 49 ∨ j = 50 ∨ j = 51 ∨ j = 54 ∨ j = 56))
def scr (M : Nat) (I J : Nat → Nat → Int32) : Prop := ∀ x j, ¬ sC M x j → J x j = I x j
def mG (M : Nat) (I J : Nat → Nat → Int32) : Prop := mR M J ∧ fr M I J
def mC (M : Nat) (I J : Nat → Nat → Int32) : Prop := mR M J ∧ scr M I J
theorem mG_refl (h : mR M I) : mG M I I := ⟨h, fun _ _ _ => rfl⟩
theorem mC_refl (h : mR M I) : mC M I I := ⟨h, fun _ _ _ => rfl⟩
theorem mC_R (h : mC M I J) : mR M J := h.1
theorem ne_MM (a b : Nat) : (M + a = M + b) = (a = b) := by simp
theorem ne_M0 (b : Nat) : (M = M + b) = (b = 0) := by simp
theorem ne_0M (b : Nat) : (M + b = M) = (b = 0) := by simp
theorem sR_now (h : mR M J) {v : Int32} (hv : (0) ≤ v ∧ v ≤ 1600) : mR M (a_ui J M 0 v) := by
  unfold mR at h ⊢
  simp only [ui_ap, ne_MM, ne_M0, ne_0M, reduceCtorEq, Nat.reduceEqDiff, false_and, and_false, if_false, true_and, and_self, if_true] at h ⊢
  grind
theorem sR_trips (h : mR M J) {v : Int32} (hv : (0) ≤ v ∧ v ≤ 20) : mR M (a_ui J M 2 v) := by
  unfold mR at h ⊢
  simp only [ui_ap, ne_MM, ne_M0, ne_0M, reduceCtorEq, Nat.reduceEqDiff, false_and, and_false, if_false, true_and, and_self, if_true] at h ⊢
  grind
theorem sR_tHour (h : mR M J) {k : Nat} {v : Int32} : mR M (a_ui J (M + 2) k v) := by
  unfold mR
  simp only [ui_ap, ne_MM, ne_M0, ne_0M, reduceCtorEq, Nat.reduceEqDiff, false_and, and_false, if_false]
  exact h
theorem sR_tMany (h : mR M J) {k : Nat} {v : Int32} : mR M (a_ui J (M + 3) k v) := by
  unfold mR
  simp only [ui_ap, ne_MM, ne_M0, ne_0M, reduceCtorEq, Nat.reduceEqDiff, false_and, and_false, if_false]
  exact h
theorem sR_tFound (h : mR M J) {k : Nat} {v : Int32} : mR M (a_ui J (M + 4) k v) := by
  unfold mR
  simp only [ui_ap, ne_MM, ne_M0, ne_0M, reduceCtorEq, Nat.reduceEqDiff, false_and, and_false, if_false]
  exact h
theorem sR_benches (h : mR M J) {v : Int32} (hv : (0) ≤ v ∧ v ≤ 6) : mR M (a_ui J M 6 v) := by
  unfold mR at h ⊢
  simp only [ui_ap, ne_MM, ne_M0, ne_0M, reduceCtorEq, Nat.reduceEqDiff, false_and, and_false, if_false, true_and, and_self, if_true] at h ⊢
  grind
theorem sR_can (h : mR M J) {k : Nat} {v : Int32} : mR M (a_ui J (M + 5) k v) := by
  unfold mR
  simp only [ui_ap, ne_MM, ne_M0, ne_0M, reduceCtorEq, Nat.reduceEqDiff, false_and, and_false, if_false]
  exact h
theorem sR_hostsOf (h : mR M J) {k : Nat} {v : Int32} : mR M (a_ui J (M + 6) k v) := by
  unfold mR
  simp only [ui_ap, ne_MM, ne_M0, ne_0M, reduceCtorEq, Nat.reduceEqDiff, false_and, and_false, if_false]
  exact h
theorem sR_rest (h : mR M J) {v : Int32} (hv : (0) ≤ v ∧ v ≤ 3) : mR M (a_ui J M 9 v) := by
  unfold mR at h ⊢
  simp only [ui_ap, ne_MM, ne_M0, ne_0M, reduceCtorEq, Nat.reduceEqDiff, false_and, and_false, if_false, true_and, and_self, if_true] at h ⊢
  grind
theorem sR_share (h : mR M J) {v : Int32} : mR M (a_ui J M 10 v) := by
  unfold mR
  simp only [ui_ap, ne_MM, ne_M0, ne_0M, reduceCtorEq, Nat.reduceEqDiff, false_and, and_false, if_false]
  exact h
theorem sR_scaled (h : mR M J) {v : Int32} : mR M (a_ui J M 11 v) := by
  unfold mR
  simp only [ui_ap, ne_MM, ne_M0, ne_0M, reduceCtorEq, Nat.reduceEqDiff, false_and, and_false, if_false]
  exact h
theorem sR_hasDraft (h : mR M J) {v : Int32} : mR M (a_ui J M 12 v) := by
  unfold mR
  simp only [ui_ap, ne_MM, ne_M0, ne_0M, reduceCtorEq, Nat.reduceEqDiff, false_and, and_false, if_false]
  exact h
theorem sR_draftGroup (h : mR M J) {v : Int32} (hv : (0) ≤ v ∧ v ≤ 9) : mR M (a_ui J M 13 v) := by
  unfold mR at h ⊢
  simp only [ui_ap, ne_MM, ne_M0, ne_0M, reduceCtorEq, Nat.reduceEqDiff, false_and, and_false, if_false, true_and, and_self, if_true] at h ⊢
  grind
theorem sR_draftLand (h : mR M J) {v : Int32} : mR M (a_ui J M 14 v) := by
  unfold mR
  simp only [ui_ap, ne_MM, ne_M0, ne_0M, reduceCtorEq, Nat.reduceEqDiff, false_and, and_false, if_false]
  exact h
theorem sR_draftLong (h : mR M J) {v : Int32} (hv : (0) ≤ v ∧ v ≤ 4) : mR M (a_ui J M 15 v) := by
  unfold mR at h ⊢
  simp only [ui_ap, ne_MM, ne_M0, ne_0M, reduceCtorEq, Nat.reduceEqDiff, false_and, and_false, if_false, true_and, and_self, if_true] at h ⊢
  grind
theorem sR_draftWants (h : mR M J) {v : Int32} : mR M (a_ui J M 16 v) := by
  unfold mR
  simp only [ui_ap, ne_MM, ne_M0, ne_0M, reduceCtorEq, Nat.reduceEqDiff, false_and, and_false, if_false]
  exact h
theorem sR_asks (h : mR M J) {v : Int32} (hv : (0) ≤ v ∧ v ≤ 30) : mR M (a_ui J M 17 v) := by
  unfold mR at h ⊢
  simp only [ui_ap, ne_MM, ne_M0, ne_0M, reduceCtorEq, Nat.reduceEqDiff, false_and, and_false, if_false, true_and, and_self, if_true] at h ⊢
  grind
theorem sR_kind (h : mR M J) {k : Nat} {v : Int32} (hv : v = 1 → 0 ≤ J (M + 16) k ∧ J (M + 16) k ≤ 29) : mR M (a_ui J (M + 7) k v) := by
  unfold mR at h ⊢
  simp only [ui_ap, ne_MM, ne_M0, ne_0M, reduceCtorEq, Nat.reduceEqDiff, false_and, and_false, if_false, true_and, and_self, if_true] at h ⊢
  grind
theorem sR_group (h : mR M J) {k : Nat} {v : Int32} (hv : (0) ≤ v ∧ v ≤ 9) : mR M (a_ui J (M + 8) k v) := by
  unfold mR at h ⊢
  simp only [ui_ap, ne_MM, ne_M0, ne_0M, reduceCtorEq, Nat.reduceEqDiff, false_and, and_false, if_false, true_and, and_self, if_true] at h ⊢
  grind
theorem sR_land (h : mR M J) {k : Nat} {v : Int32} : mR M (a_ui J (M + 9) k v) := by
  unfold mR
  simp only [ui_ap, ne_MM, ne_M0, ne_0M, reduceCtorEq, Nat.reduceEqDiff, false_and, and_false, if_false]
  exact h
theorem sR_length (h : mR M J) {k : Nat} {v : Int32} (hv : (0) ≤ v ∧ v ≤ 4) : mR M (a_ui J (M + 10) k v) := by
  unfold mR at h ⊢
  simp only [ui_ap, ne_MM, ne_M0, ne_0M, reduceCtorEq, Nat.reduceEqDiff, false_and, and_false, if_false, true_and, and_self, if_true] at h ⊢
  grind
theorem sR_wants (h : mR M J) {k : Nat} {v : Int32} : mR M (a_ui J (M + 11) k v) := by
  unfold mR
  simp only [ui_ap, ne_MM, ne_M0, ne_0M, reduceCtorEq, Nat.reduceEqDiff, false_and, and_false, if_false]
  exact h
theorem sR_benchSet (h : mR M J) {k : Nat} {v : Int32} : mR M (a_ui J (M + 12) k v) := by
  unfold mR
  simp only [ui_ap, ne_MM, ne_M0, ne_0M, reduceCtorEq, Nat.reduceEqDiff, false_and, and_false, if_false]
  exact h
theorem sR_modeSet (h : mR M J) {k : Nat} {v : Int32} : mR M (a_ui J (M + 13) k v) := by
  unfold mR
  simp only [ui_ap, ne_MM, ne_M0, ne_0M, reduceCtorEq, Nat.reduceEqDiff, false_and, and_false, if_false]
  exact h
theorem sR_gear (h : mR M J) {k : Nat} {v : Int32} : mR M (a_ui J (M + 14) k v) := by
  unfold mR
  simp only [ui_ap, ne_MM, ne_M0, ne_0M, reduceCtorEq, Nat.reduceEqDiff, false_and, and_false, if_false]
  exact h
theorem sR_danger (h : mR M J) {k : Nat} {v : Int32} : mR M (a_ui J (M + 15) k v) := by
  unfold mR
  simp only [ui_ap, ne_MM, ne_M0, ne_0M, reduceCtorEq, Nat.reduceEqDiff, false_and, and_false, if_false]
  exact h
theorem sR_isGone (h : mR M J) {k : Nat} {v : Int32} : mR M (a_ui J (M + 18) k v) := by
  unfold mR
  simp only [ui_ap, ne_MM, ne_M0, ne_0M, reduceCtorEq, Nat.reduceEqDiff, false_and, and_false, if_false]
  exact h
theorem sR_wasOwed (h : mR M J) {k : Nat} {v : Int32} : mR M (a_ui J (M + 19) k v) := by
  unfold mR
  simp only [ui_ap, ne_MM, ne_M0, ne_0M, reduceCtorEq, Nat.reduceEqDiff, false_and, and_false, if_false]
  exact h
theorem sR_atBench (h : mR M J) {k : Nat} {v : Int32} (hv : (-9) ≤ v ∧ v ≤ 5) : mR M (a_ui J (M + 20) k v) := by
  unfold mR at h ⊢
  simp only [ui_ap, ne_MM, ne_M0, ne_0M, reduceCtorEq, Nat.reduceEqDiff, false_and, and_false, if_false, true_and, and_self, if_true] at h ⊢
  grind
theorem sR_atShift (h : mR M J) {k : Nat} {v : Int32} (hv : (-9) ≤ v ∧ v ≤ 200) : mR M (a_ui J (M + 21) k v) := by
  unfold mR at h ⊢
  simp only [ui_ap, ne_MM, ne_M0, ne_0M, reduceCtorEq, Nat.reduceEqDiff, false_and, and_false, if_false, true_and, and_self, if_true] at h ⊢
  grind
theorem sR_standing (h : mR M J) {k : Nat} {v : Int32} : mR M (a_ui J (M + 22) k v) := by
  unfold mR
  simp only [ui_ap, ne_MM, ne_M0, ne_0M, reduceCtorEq, Nat.reduceEqDiff, false_and, and_false, if_false]
  exact h
theorem sR_refused (h : mR M J) {k : Nat} {v : Int32} : mR M (a_ui J (M + 23) k v) := by
  unfold mR
  simp only [ui_ap, ne_MM, ne_M0, ne_0M, reduceCtorEq, Nat.reduceEqDiff, false_and, and_false, if_false]
  exact h
theorem sR_events (h : mR M J) {v : Int32} (hv : (0) ≤ v ∧ v ≤ 84000) : mR M (a_ui J M 35 v) := by
  unfold mR at h ⊢
  simp only [ui_ap, ne_MM, ne_M0, ne_0M, reduceCtorEq, Nat.reduceEqDiff, false_and, and_false, if_false, true_and, and_self, if_true] at h ⊢
  grind
theorem sR_eWhere (h : mR M J) {k : Nat} {v : Int32} : mR M (a_ui J (M + 24) k v) := by
  unfold mR
  simp only [ui_ap, ne_MM, ne_M0, ne_0M, reduceCtorEq, Nat.reduceEqDiff, false_and, and_false, if_false]
  exact h
theorem sR_eHour (h : mR M J) {k : Nat} {v : Int32} : mR M (a_ui J (M + 25) k v) := by
  unfold mR
  simp only [ui_ap, ne_MM, ne_M0, ne_0M, reduceCtorEq, Nat.reduceEqDiff, false_and, and_false, if_false]
  exact h
theorem sR_eAsk (h : mR M J) {k : Nat} {v : Int32} : mR M (a_ui J (M + 26) k v) := by
  unfold mR
  simp only [ui_ap, ne_MM, ne_M0, ne_0M, reduceCtorEq, Nat.reduceEqDiff, false_and, and_false, if_false]
  exact h
theorem sR_tape (h : mR M J) {k : Nat} {v : Int32} : mR M (a_ui J (M + 27) k v) := by
  unfold mR
  simp only [ui_ap, ne_MM, ne_M0, ne_0M, reduceCtorEq, Nat.reduceEqDiff, false_and, and_false, if_false]
  exact h
theorem sR_tapeMany (h : mR M J) {v : Int32} (hv : (0) ≤ v ∧ v ≤ 50) : mR M (a_ui J M 40 v) := by
  unfold mR at h ⊢
  simp only [ui_ap, ne_MM, ne_M0, ne_0M, reduceCtorEq, Nat.reduceEqDiff, false_and, and_false, if_false, true_and, and_self, if_true] at h ⊢
  grind
theorem sR_texts (h : mR M J) {v : Int32} (hv : (0) ≤ v ∧ v ≤ 20) : mR M (a_ui J M 41 v) := by
  unfold mR at h ⊢
  simp only [ui_ap, ne_MM, ne_M0, ne_0M, reduceCtorEq, Nat.reduceEqDiff, false_and, and_false, if_false, true_and, and_self, if_true] at h ⊢
  grind
theorem sR_written (h : mR M J) {k : Nat} {v : Int32} : mR M (a_ui J (M + 28) k v) := by
  unfold mR
  simp only [ui_ap, ne_MM, ne_M0, ne_0M, reduceCtorEq, Nat.reduceEqDiff, false_and, and_false, if_false]
  exact h
theorem sR_writtenMany (h : mR M J) {k : Nat} {v : Int32} (hv : (0) ≤ v ∧ v ≤ 50) : mR M (a_ui J (M + 29) k v) := by
  unfold mR at h ⊢
  simp only [ui_ap, ne_MM, ne_M0, ne_0M, reduceCtorEq, Nat.reduceEqDiff, false_and, and_false, if_false, true_and, and_self, if_true] at h ⊢
  grind
theorem sR_textFrom (h : mR M J) {k : Nat} {v : Int32} : mR M (a_ui J (M + 30) k v) := by
  unfold mR
  simp only [ui_ap, ne_MM, ne_M0, ne_0M, reduceCtorEq, Nat.reduceEqDiff, false_and, and_false, if_false]
  exact h
theorem sR_struckFrom (h : mR M J) {k : Nat} {v : Int32} : mR M (a_ui J (M + 31) k v) := by
  unfold mR
  simp only [ui_ap, ne_MM, ne_M0, ne_0M, reduceCtorEq, Nat.reduceEqDiff, false_and, and_false, if_false]
  exact h
theorem sR_isTold (h : mR M J) {v : Int32} : mR M (a_ui J M 46 v) := by
  unfold mR
  simp only [ui_ap, ne_MM, ne_M0, ne_0M, reduceCtorEq, Nat.reduceEqDiff, false_and, and_false, if_false]
  exact h
theorem sR_base (h : mR M J) {v : Int32} (hv : (0) ≤ v ∧ v ≤ 950) : mR M (a_ui J M 47 v) := by
  unfold mR at h ⊢
  simp only [ui_ap, ne_MM, ne_M0, ne_0M, reduceCtorEq, Nat.reduceEqDiff, false_and, and_false, if_false, true_and, and_self, if_true] at h ⊢
  grind
theorem sR_end (h : mR M J) {v : Int32} : mR M (a_ui J M 48 v) := by
  unfold mR
  simp only [ui_ap, ne_MM, ne_M0, ne_0M, reduceCtorEq, Nat.reduceEqDiff, false_and, and_false, if_false]
  exact h
theorem sR_at (h : mR M J) {v : Int32} : mR M (a_ui J M 49 v) := by
  unfold mR
  simp only [ui_ap, ne_MM, ne_M0, ne_0M, reduceCtorEq, Nat.reduceEqDiff, false_and, and_false, if_false]
  exact h
theorem sR_isBad (h : mR M J) {v : Int32} : mR M (a_ui J M 50 v) := by
  unfold mR
  simp only [ui_ap, ne_MM, ne_M0, ne_0M, reduceCtorEq, Nat.reduceEqDiff, false_and, and_false, if_false]
  exact h
theorem sR_deep (h : mR M J) {v : Int32} : mR M (a_ui J M 51 v) := by
  unfold mR
  simp only [ui_ap, ne_MM, ne_M0, ne_0M, reduceCtorEq, Nat.reduceEqDiff, false_and, and_false, if_false]
  exact h
theorem sR_facts (h : mR M J) {k : Nat} {v : Int32} : mR M (a_ui J (M + 32) k v) := by
  unfold mR
  simp only [ui_ap, ne_MM, ne_M0, ne_0M, reduceCtorEq, Nat.reduceEqDiff, false_and, and_false, if_false]
  exact h
theorem sR_values (h : mR M J) {k : Nat} {v : Int32} : mR M (a_ui J (M + 33) k v) := by
  unfold mR
  simp only [ui_ap, ne_MM, ne_M0, ne_0M, reduceCtorEq, Nat.reduceEqDiff, false_and, and_false, if_false]
  exact h
theorem sR_valueMany (h : mR M J) {v : Int32} : mR M (a_ui J M 54 v) := by
  unfold mR
  simp only [ui_ap, ne_MM, ne_M0, ne_0M, reduceCtorEq, Nat.reduceEqDiff, false_and, and_false, if_false]
  exact h
theorem sR_signs (h : mR M J) {k : Nat} {v : Int32} : mR M (a_ui J (M + 34) k v) := by
  unfold mR
  simp only [ui_ap, ne_MM, ne_M0, ne_0M, reduceCtorEq, Nat.reduceEqDiff, false_and, and_false, if_false]
  exact h
theorem sR_signMany (h : mR M J) {v : Int32} : mR M (a_ui J M 56 v) := by
  unfold mR
  simp only [ui_ap, ne_MM, ne_M0, ne_0M, reduceCtorEq, Nat.reduceEqDiff, false_and, and_false, if_false]
  exact h
theorem sR_isKin (h : mR M J) {k : Nat} {v : Int32} : mR M (a_ui J (M + 35) k v) := by
  unfold mR
  simp only [ui_ap, ne_MM, ne_M0, ne_0M, reduceCtorEq, Nat.reduceEqDiff, false_and, and_false, if_false]
  exact h
theorem sR_marks (h : mR M J) {k : Nat} {v : Int32} : mR M (a_ui J (M + 36) k v) := by
  unfold mR
  simp only [ui_ap, ne_MM, ne_M0, ne_0M, reduceCtorEq, Nat.reduceEqDiff, false_and, and_false, if_false]
  exact h
theorem sR_isMarked (h : mR M J) {k : Nat} {v : Int32} : mR M (a_ui J (M + 37) k v) := by
  unfold mR
  simp only [ui_ap, ne_MM, ne_M0, ne_0M, reduceCtorEq, Nat.reduceEqDiff, false_and, and_false, if_false]
  exact h
theorem sR_doesCount (h : mR M J) {k : Nat} {v : Int32} : mR M (a_ui J (M + 38) k v) := by
  unfold mR
  simp only [ui_ap, ne_MM, ne_M0, ne_0M, reduceCtorEq, Nat.reduceEqDiff, false_and, and_false, if_false]
  exact h
theorem sR_passedMany (h : mR M J) {v : Int32} (hv : (0) ≤ v ∧ v ≤ 30) : mR M (a_ui J M 61 v) := by
  unfold mR at h ⊢
  simp only [ui_ap, ne_MM, ne_M0, ne_0M, reduceCtorEq, Nat.reduceEqDiff, false_and, and_false, if_false, true_and, and_self, if_true] at h ⊢
  grind
theorem sR_passedAsk (h : mR M J) {k : Nat} {v : Int32} : mR M (a_ui J (M + 39) k v) := by
  unfold mR
  simp only [ui_ap, ne_MM, ne_M0, ne_0M, reduceCtorEq, Nat.reduceEqDiff, false_and, and_false, if_false]
  exact h
theorem sR_order (h : mR M J) {k : Nat} {v : Int32} (hv : (0) ≤ v ∧ v ≤ 29) : mR M (a_ui J (M + 40) k v) := by
  unfold mR at h ⊢
  simp only [ui_ap, ne_MM, ne_M0, ne_0M, reduceCtorEq, Nat.reduceEqDiff, false_and, and_false, if_false, true_and, and_self, if_true] at h ⊢
  grind
theorem sR_orderMany (h : mR M J) {v : Int32} : mR M (a_ui J M 64 v) := by
  unfold mR
  simp only [ui_ap, ne_MM, ne_M0, ne_0M, reduceCtorEq, Nat.reduceEqDiff, false_and, and_false, if_false]
  exact h
theorem sR_few (h : mR M J) {k : Nat} {v : Int32} (hv : (0) ≤ v ∧ v ≤ 29) : mR M (a_ui J (M + 41) k v) := by
  unfold mR at h ⊢
  simp only [ui_ap, ne_MM, ne_M0, ne_0M, reduceCtorEq, Nat.reduceEqDiff, false_and, and_false, if_false, true_and, and_self, if_true] at h ⊢
  grind
theorem sR_fewMany (h : mR M J) {v : Int32} : mR M (a_ui J M 66 v) := by
  unfold mR
  simp only [ui_ap, ne_MM, ne_M0, ne_0M, reduceCtorEq, Nat.reduceEqDiff, false_and, and_false, if_false]
  exact h
theorem sR_way (h : mR M J) {k : Nat} {v : Int32} : mR M (a_ui J (M + 42) k v) := by
  unfold mR
  simp only [ui_ap, ne_MM, ne_M0, ne_0M, reduceCtorEq, Nat.reduceEqDiff, false_and, and_false, if_false]
  exact h
theorem sR_sumTo (h : mR M J) {k : Nat} {v : Int32} : mR M (a_ui J (M + 43) k v) := by
  unfold mR
  simp only [ui_ap, ne_MM, ne_M0, ne_0M, reduceCtorEq, Nat.reduceEqDiff, false_and, and_false, if_false]
  exact h
theorem sR_bestWay (h : mR M J) {k : Nat} {v : Int32} (hv : (0) ≤ v ∧ v ≤ 48) : mR M (a_ui J (M + 44) k v) := by
  unfold mR at h ⊢
  simp only [ui_ap, ne_MM, ne_M0, ne_0M, reduceCtorEq, Nat.reduceEqDiff, false_and, and_false, if_false, true_and, and_self, if_true] at h ⊢
  grind
theorem sR_wasBench (h : mR M J) {k : Nat} {v : Int32} : mR M (a_ui J (M + 45) k v) := by
  unfold mR
  simp only [ui_ap, ne_MM, ne_M0, ne_0M, reduceCtorEq, Nat.reduceEqDiff, false_and, and_false, if_false]
  exact h
theorem sR_wasShift (h : mR M J) {k : Nat} {v : Int32} : mR M (a_ui J (M + 46) k v) := by
  unfold mR
  simp only [ui_ap, ne_MM, ne_M0, ne_0M, reduceCtorEq, Nat.reduceEqDiff, false_and, and_false, if_false]
  exact h
theorem sR_isWish (h : mR M J) {k : Nat} {v : Int32} : mR M (a_ui J (M + 47) k v) := by
  unfold mR
  simp only [ui_ap, ne_MM, ne_M0, ne_0M, reduceCtorEq, Nat.reduceEqDiff, false_and, and_false, if_false]
  exact h
theorem sR_ringAsk (h : mR M J) {k : Nat} {v : Int32} : mR M (a_ui J (M + 48) k v) := by
  unfold mR
  simp only [ui_ap, ne_MM, ne_M0, ne_0M, reduceCtorEq, Nat.reduceEqDiff, false_and, and_false, if_false]
  exact h
theorem sR_ringMany (h : mR M J) {v : Int32} : mR M (a_ui J M 74 v) := by
  unfold mR
  simp only [ui_ap, ne_MM, ne_M0, ne_0M, reduceCtorEq, Nat.reduceEqDiff, false_and, and_false, if_false]
  exact h
theorem sR_oldBench (h : mR M J) {k : Nat} {v : Int32} (hv : (-9) ≤ v ∧ v ≤ 5) : mR M (a_ui J (M + 49) k v) := by
  unfold mR at h ⊢
  simp only [ui_ap, ne_MM, ne_M0, ne_0M, reduceCtorEq, Nat.reduceEqDiff, false_and, and_false, if_false, true_and, and_self, if_true] at h ⊢
  grind
theorem sR_oldShift (h : mR M J) {k : Nat} {v : Int32} (hv : (-9) ≤ v ∧ v ≤ 200) : mR M (a_ui J (M + 50) k v) := by
  unfold mR at h ⊢
  simp only [ui_ap, ne_MM, ne_M0, ne_0M, reduceCtorEq, Nat.reduceEqDiff, false_and, and_false, if_false, true_and, and_self, if_true] at h ⊢
  grind
theorem sR_oldStanding (h : mR M J) {k : Nat} {v : Int32} : mR M (a_ui J (M + 51) k v) := by
  unfold mR
  simp only [ui_ap, ne_MM, ne_M0, ne_0M, reduceCtorEq, Nat.reduceEqDiff, false_and, and_false, if_false]
  exact h
theorem sR_row (h : mR M J) {k : Nat} {v : Int32} : mR M (a_ui J (M + 52) k v) := by
  unfold mR
  simp only [ui_ap, ne_MM, ne_M0, ne_0M, reduceCtorEq, Nat.reduceEqDiff, false_and, and_false, if_false]
  exact h
theorem sR_rowMany (h : mR M J) {v : Int32} (hv : (0) ≤ v ∧ v ≤ 21) : mR M (a_ui J M 79 v) := by
  unfold mR at h ⊢
  simp only [ui_ap, ne_MM, ne_M0, ne_0M, reduceCtorEq, Nat.reduceEqDiff, false_and, and_false, if_false, true_and, and_self, if_true] at h ⊢
  grind
theorem sG_asks (h : mG M I J) {v : Int32} (hv : (0) ≤ v ∧ v ≤ 30) : mG M I (a_ui J M 17 v) := ⟨sR_asks h.1 hv, fun x j hx => by rw [ui_ap, if_neg (by unfold eC at hx; omega)]; exact h.2 x j hx⟩
theorem sG_kind (h : mG M I J) {k : Nat} {v : Int32} (hv : v = 1 → 0 ≤ J (M + 16) k ∧ J (M + 16) k ≤ 29) : mG M I (a_ui J (M + 7) k v) := ⟨sR_kind h.1 hv, fun x j hx => by rw [ui_ap, if_neg (by unfold eC at hx; omega)]; exact h.2 x j hx⟩
theorem sG_group (h : mG M I J) {k : Nat} {v : Int32} (hv : (0) ≤ v ∧ v ≤ 9) : mG M I (a_ui J (M + 8) k v) := ⟨sR_group h.1 hv, fun x j hx => by rw [ui_ap, if_neg (by unfold eC at hx; omega)]; exact h.2 x j hx⟩
theorem sG_land (h : mG M I J) {k : Nat} {v : Int32} : mG M I (a_ui J (M + 9) k v) := ⟨sR_land h.1, fun x j hx => by rw [ui_ap, if_neg (by unfold eC at hx; omega)]; exact h.2 x j hx⟩
theorem sG_length (h : mG M I J) {k : Nat} {v : Int32} (hv : (0) ≤ v ∧ v ≤ 4) : mG M I (a_ui J (M + 10) k v) := ⟨sR_length h.1 hv, fun x j hx => by rw [ui_ap, if_neg (by unfold eC at hx; omega)]; exact h.2 x j hx⟩
theorem sG_wants (h : mG M I J) {k : Nat} {v : Int32} : mG M I (a_ui J (M + 11) k v) := ⟨sR_wants h.1, fun x j hx => by rw [ui_ap, if_neg (by unfold eC at hx; omega)]; exact h.2 x j hx⟩
theorem sG_benchSet (h : mG M I J) {k : Nat} {v : Int32} : mG M I (a_ui J (M + 12) k v) := ⟨sR_benchSet h.1, fun x j hx => by rw [ui_ap, if_neg (by unfold eC at hx; omega)]; exact h.2 x j hx⟩
theorem sG_modeSet (h : mG M I J) {k : Nat} {v : Int32} : mG M I (a_ui J (M + 13) k v) := ⟨sR_modeSet h.1, fun x j hx => by rw [ui_ap, if_neg (by unfold eC at hx; omega)]; exact h.2 x j hx⟩
theorem sG_gear (h : mG M I J) {k : Nat} {v : Int32} : mG M I (a_ui J (M + 14) k v) := ⟨sR_gear h.1, fun x j hx => by rw [ui_ap, if_neg (by unfold eC at hx; omega)]; exact h.2 x j hx⟩
theorem sG_danger (h : mG M I J) {k : Nat} {v : Int32} : mG M I (a_ui J (M + 15) k v) := ⟨sR_danger h.1, fun x j hx => by rw [ui_ap, if_neg (by unfold eC at hx; omega)]; exact h.2 x j hx⟩
theorem sG_isGone (h : mG M I J) {k : Nat} {v : Int32} : mG M I (a_ui J (M + 18) k v) := ⟨sR_isGone h.1, fun x j hx => by rw [ui_ap, if_neg (by unfold eC at hx; omega)]; exact h.2 x j hx⟩
theorem sG_wasOwed (h : mG M I J) {k : Nat} {v : Int32} : mG M I (a_ui J (M + 19) k v) := ⟨sR_wasOwed h.1, fun x j hx => by rw [ui_ap, if_neg (by unfold eC at hx; omega)]; exact h.2 x j hx⟩
theorem sG_atBench (h : mG M I J) {k : Nat} {v : Int32} (hv : (-9) ≤ v ∧ v ≤ 5) : mG M I (a_ui J (M + 20) k v) := ⟨sR_atBench h.1 hv, fun x j hx => by rw [ui_ap, if_neg (by unfold eC at hx; omega)]; exact h.2 x j hx⟩
theorem sG_atShift (h : mG M I J) {k : Nat} {v : Int32} (hv : (-9) ≤ v ∧ v ≤ 200) : mG M I (a_ui J (M + 21) k v) := ⟨sR_atShift h.1 hv, fun x j hx => by rw [ui_ap, if_neg (by unfold eC at hx; omega)]; exact h.2 x j hx⟩
theorem sG_refused (h : mG M I J) {k : Nat} {v : Int32} : mG M I (a_ui J (M + 23) k v) := ⟨sR_refused h.1, fun x j hx => by rw [ui_ap, if_neg (by unfold eC at hx; omega)]; exact h.2 x j hx⟩
theorem sC_isTold (h : mC M I J) {v : Int32} : mC M I (a_ui J M 46 v) := ⟨sR_isTold h.1, fun x j hx => by rw [ui_ap, if_neg (by unfold sC at hx; omega)]; exact h.2 x j hx⟩
theorem sC_base (h : mC M I J) {v : Int32} (hv : (0) ≤ v ∧ v ≤ 950) : mC M I (a_ui J M 47 v) := ⟨sR_base h.1 hv, fun x j hx => by rw [ui_ap, if_neg (by unfold sC at hx; omega)]; exact h.2 x j hx⟩
theorem sC_end (h : mC M I J) {v : Int32} : mC M I (a_ui J M 48 v) := ⟨sR_end h.1, fun x j hx => by rw [ui_ap, if_neg (by unfold sC at hx; omega)]; exact h.2 x j hx⟩
theorem sC_at (h : mC M I J) {v : Int32} : mC M I (a_ui J M 49 v) := ⟨sR_at h.1, fun x j hx => by rw [ui_ap, if_neg (by unfold sC at hx; omega)]; exact h.2 x j hx⟩
theorem sC_isBad (h : mC M I J) {v : Int32} : mC M I (a_ui J M 50 v) := ⟨sR_isBad h.1, fun x j hx => by rw [ui_ap, if_neg (by unfold sC at hx; omega)]; exact h.2 x j hx⟩
theorem sC_deep (h : mC M I J) {v : Int32} : mC M I (a_ui J M 51 v) := ⟨sR_deep h.1, fun x j hx => by rw [ui_ap, if_neg (by unfold sC at hx; omega)]; exact h.2 x j hx⟩
theorem sC_facts (h : mC M I J) {k : Nat} {v : Int32} : mC M I (a_ui J (M + 32) k v) := ⟨sR_facts h.1, fun x j hx => by rw [ui_ap, if_neg (by unfold sC at hx; omega)]; exact h.2 x j hx⟩
theorem sC_values (h : mC M I J) {k : Nat} {v : Int32} : mC M I (a_ui J (M + 33) k v) := ⟨sR_values h.1, fun x j hx => by rw [ui_ap, if_neg (by unfold sC at hx; omega)]; exact h.2 x j hx⟩
theorem sC_valueMany (h : mC M I J) {v : Int32} : mC M I (a_ui J M 54 v) := ⟨sR_valueMany h.1, fun x j hx => by rw [ui_ap, if_neg (by unfold sC at hx; omega)]; exact h.2 x j hx⟩
theorem sC_signs (h : mC M I J) {k : Nat} {v : Int32} : mC M I (a_ui J (M + 34) k v) := ⟨sR_signs h.1, fun x j hx => by rw [ui_ap, if_neg (by unfold sC at hx; omega)]; exact h.2 x j hx⟩
theorem sC_signMany (h : mC M I J) {v : Int32} : mC M I (a_ui J M 56 v) := ⟨sR_signMany h.1, fun x j hx => by rw [ui_ap, if_neg (by unfold sC at hx; omega)]; exact h.2 x j hx⟩
theorem sG_marks (h : mG M I J) {k : Nat} {v : Int32} : mG M I (a_ui J (M + 36) k v) := ⟨sR_marks h.1, fun x j hx => by rw [ui_ap, if_neg (by unfold eC at hx; omega)]; exact h.2 x j hx⟩
theorem sG_isMarked (h : mG M I J) {k : Nat} {v : Int32} : mG M I (a_ui J (M + 37) k v) := ⟨sR_isMarked h.1, fun x j hx => by rw [ui_ap, if_neg (by unfold eC at hx; omega)]; exact h.2 x j hx⟩
theorem sG_doesCount (h : mG M I J) {k : Nat} {v : Int32} : mG M I (a_ui J (M + 38) k v) := ⟨sR_doesCount h.1, fun x j hx => by rw [ui_ap, if_neg (by unfold eC at hx; omega)]; exact h.2 x j hx⟩
theorem sG_passedMany (h : mG M I J) {v : Int32} (hv : (0) ≤ v ∧ v ≤ 30) : mG M I (a_ui J M 61 v) := ⟨sR_passedMany h.1 hv, fun x j hx => by rw [ui_ap, if_neg (by unfold eC at hx; omega)]; exact h.2 x j hx⟩
theorem sG_passedAsk (h : mG M I J) {k : Nat} {v : Int32} : mG M I (a_ui J (M + 39) k v) := ⟨sR_passedAsk h.1, fun x j hx => by rw [ui_ap, if_neg (by unfold eC at hx; omega)]; exact h.2 x j hx⟩
theorem sG_order (h : mG M I J) {k : Nat} {v : Int32} (hv : (0) ≤ v ∧ v ≤ 29) : mG M I (a_ui J (M + 40) k v) := ⟨sR_order h.1 hv, fun x j hx => by rw [ui_ap, if_neg (by unfold eC at hx; omega)]; exact h.2 x j hx⟩
theorem sG_orderMany (h : mG M I J) {v : Int32} : mG M I (a_ui J M 64 v) := ⟨sR_orderMany h.1, fun x j hx => by rw [ui_ap, if_neg (by unfold eC at hx; omega)]; exact h.2 x j hx⟩
theorem sG_few (h : mG M I J) {k : Nat} {v : Int32} (hv : (0) ≤ v ∧ v ≤ 29) : mG M I (a_ui J (M + 41) k v) := ⟨sR_few h.1 hv, fun x j hx => by rw [ui_ap, if_neg (by unfold eC at hx; omega)]; exact h.2 x j hx⟩
theorem sG_fewMany (h : mG M I J) {v : Int32} : mG M I (a_ui J M 66 v) := ⟨sR_fewMany h.1, fun x j hx => by rw [ui_ap, if_neg (by unfold eC at hx; omega)]; exact h.2 x j hx⟩
theorem sG_wasBench (h : mG M I J) {k : Nat} {v : Int32} : mG M I (a_ui J (M + 45) k v) := ⟨sR_wasBench h.1, fun x j hx => by rw [ui_ap, if_neg (by unfold eC at hx; omega)]; exact h.2 x j hx⟩
theorem sG_wasShift (h : mG M I J) {k : Nat} {v : Int32} : mG M I (a_ui J (M + 46) k v) := ⟨sR_wasShift h.1, fun x j hx => by rw [ui_ap, if_neg (by unfold eC at hx; omega)]; exact h.2 x j hx⟩
theorem sG_isWish (h : mG M I J) {k : Nat} {v : Int32} : mG M I (a_ui J (M + 47) k v) := ⟨sR_isWish h.1, fun x j hx => by rw [ui_ap, if_neg (by unfold eC at hx; omega)]; exact h.2 x j hx⟩
theorem sG_ringAsk (h : mG M I J) {k : Nat} {v : Int32} : mG M I (a_ui J (M + 48) k v) := ⟨sR_ringAsk h.1, fun x j hx => by rw [ui_ap, if_neg (by unfold eC at hx; omega)]; exact h.2 x j hx⟩
theorem sG_ringMany (h : mG M I J) {v : Int32} : mG M I (a_ui J M 74 v) := ⟨sR_ringMany h.1, fun x j hx => by rw [ui_ap, if_neg (by unfold eC at hx; omega)]; exact h.2 x j hx⟩
theorem sG_oldBench (h : mG M I J) {k : Nat} {v : Int32} (hv : (-9) ≤ v ∧ v ≤ 5) : mG M I (a_ui J (M + 49) k v) := ⟨sR_oldBench h.1 hv, fun x j hx => by rw [ui_ap, if_neg (by unfold eC at hx; omega)]; exact h.2 x j hx⟩
theorem sG_oldShift (h : mG M I J) {k : Nat} {v : Int32} (hv : (-9) ≤ v ∧ v ≤ 200) : mG M I (a_ui J (M + 50) k v) := ⟨sR_oldShift h.1 hv, fun x j hx => by rw [ui_ap, if_neg (by unfold eC at hx; omega)]; exact h.2 x j hx⟩
theorem eS_now (h : mC M I J) : J M 0 = I M 0 := h.2 _ _ (by unfold sC; omega)
theorem eS_benches (h : mC M I J) : J M 6 = I M 6 := h.2 _ _ (by unfold sC; omega)
theorem eS_asks (h : mC M I J) : J M 17 = I M 17 := h.2 _ _ (by unfold sC; omega)
theorem eS_length (h : mC M I J) (j : Nat) : J (M + 10) j = I (M + 10) j := h.2 _ _ (by unfold sC; omega)
theorem eS_atBench (h : mC M I J) (j : Nat) : J (M + 20) j = I (M + 20) j := h.2 _ _ (by unfold sC; omega)
theorem eS_atShift (h : mC M I J) (j : Nat) : J (M + 21) j = I (M + 21) j := h.2 _ _ (by unfold sC; omega)
theorem eS_events (h : mC M I J) : J M 35 = I M 35 := h.2 _ _ (by unfold sC; omega)
theorem eS_eWhere (h : mC M I J) (j : Nat) : J (M + 24) j = I (M + 24) j := h.2 _ _ (by unfold sC; omega)
theorem eS_eHour (h : mC M I J) (j : Nat) : J (M + 25) j = I (M + 25) j := h.2 _ _ (by unfold sC; omega)
theorem eS_way (h : mC M I J) (j : Nat) : J (M + 42) j = I (M + 42) j := h.2 _ _ (by unfold sC; omega)
theorem eS_oldBench (h : mC M I J) (j : Nat) : J (M + 49) j = I (M + 49) j := h.2 _ _ (by unfold sC; omega)
theorem eS_oldShift (h : mC M I J) (j : Nat) : J (M + 50) j = I (M + 50) j := h.2 _ _ (by unfold sC; omega)
theorem mG_C {I0 : Nat → Nat → Int32} (h : mG M I0 I) (h2 : mC M I J) : mG M I0 J := ⟨h2.1, fun x j hx => (h2.2 x j (by unfold eC at hx; unfold sC; omega)).trans (h.2 x j hx)⟩
end RG
end
section
/-! the reference's small methods -/
section RL
variable {d n t M : Nat} {K L : Nat → Nat} {I : Nat → Nat → Int32} {R : Nat → Nat → Nat} {P : Option Value → AH → Prop}
theorem sp_in {v lo hi : Int32} {h : AH} : a_does (d + 1) 174 [.int v, .int lo, .int hi] h P ↔ P (some (.int (if lo ≤ v ∧ v ≤ hi then 1 else 0))) h := by
  rw [a_enter1 (M := a_m174) rfl (a_cat_int (a_cat_int (a_cat_int a_cat_nil))) (show 3 ≤ 3 by decide)]
  show a_at _ (a_xm a_m174) 0 [some (.int v), some (.int lo), some (.int hi)] [] _ _ ↔ _
  simp only [q174_0, q174_1, q174_2, q174_5, q174_6, q174_7, q174_10, q174_11, q174_14, q174_15]
  grind
theorem sp_isShift {v : Int32} {h : AH} : a_does (d + 2) 173 [.int v] h P ↔ P (some (.int (if 0 ≤ v ∧ v ≤ 199 then 1 else 0))) h := by
  rw [a_enter1 (M := a_m173) rfl (a_cat_int a_cat_nil) (show 1 ≤ 1 by decide)]
  show a_at _ (a_xm a_m173) 0 [some (.int v)] [] _ _ ↔ _
  simp only [q173_0, q173_1, q173_2, q173_5, q173_8, sp_in, as_nil, as_i, as_r, Nat.reduceAdd, Nat.reduceLeDiff, z_eq0, z_eq1, z_or, z_em, Classical.not_not, not_false_eq_true, not_true_eq_false, true_and, and_true, false_and, and_false, and_self, true_implies, false_implies, implies_true, Option.toList_some, Option.toList_none, List.cons_append, List.nil_append, Nat.add_eq_zero_iff, a_nl_i, a_nl_r, a_nl_n, true_or, or_true, eq_self]
theorem sp_isReader {v : Int32} {h : AH} : a_does (d + 2) 214 [.int v] h P ↔ P (some (.int (if 0 ≤ v ∧ v ≤ 5 then 1 else 0))) h := by
  rw [a_enter1 (M := a_m214) rfl (a_cat_int a_cat_nil) (show 1 ≤ 1 by decide)]
  show a_at _ (a_xm a_m214) 0 [some (.int v)] [] _ _ ↔ _
  simp only [q214_0, q214_1, q214_2, q214_3, q214_6, sp_in, as_nil, as_i, as_r, Nat.reduceAdd, Nat.reduceLeDiff, z_eq0, z_eq1, z_or, z_em, Classical.not_not, not_false_eq_true, not_true_eq_false, true_and, and_true, false_and, and_false, and_self, true_implies, false_implies, implies_true, Option.toList_some, Option.toList_none, List.cons_append, List.nil_append, Nat.add_eq_zero_iff, a_nl_i, a_nl_r, a_nl_n, true_or, or_true, eq_self]
theorem sp_isSpan {a b : Int32} {h : AH} : a_does (d + 3) 235 [.int a, .int b] h P ↔ P (some (.int (if (0 ≤ a ∧ a ≤ 199) ∧ (0 ≤ b ∧ b ≤ 199) ∧ a ≤ b then 1 else 0))) h := by
  rw [a_enter1 (M := a_m235) rfl (a_cat_int (a_cat_int a_cat_nil)) (show 2 ≤ 2 by decide)]
  show a_at _ (a_xm a_m235) 0 [some (.int a), some (.int b)] [] _ _ ↔ _
  simp only [q235_0, q235_1, q235_4, q235_7, q235_8, q235_11, q235_14, q235_15, q235_16, q235_19, q235_20, q235_23, q235_24, sp_isShift, as_nil, as_i, as_r, Nat.reduceAdd, Nat.reduceLeDiff, z_eq0, z_eq1, z_or, z_em, Classical.not_not, not_false_eq_true, not_true_eq_false, true_and, and_true, false_and, and_false, and_self, true_implies, false_implies, implies_true, Option.toList_some, Option.toList_none, List.cons_append, List.nil_append, Nat.add_eq_zero_iff, a_nl_i, a_nl_r, a_nl_n, true_or, or_true, eq_self]
  grind
theorem sp_isBench (hS : m_S M K L R) {v : Int32} : a_does (d + 2) 209 [a_rf M, .int v] (n, t, K, L, I, R) P ↔ P (some (.int (if 0 ≤ v ∧ v ≤ I M 6 - 1 then 1 else 0))) (n, t, K, L, I, R) := by
  rw [a_enter1 (M := a_m209) rfl (a_cat_rf (a_cat_int a_cat_nil)) (show 2 ≤ 2 by decide)]
  show a_at _ (a_xm a_m209) 0 [some (a_rf M), some (.int v)] [] _ _ ↔ _
  simp only [q209_0, q209_1, q209_2, q209_3, q209_6, q209_7, q209_8, q209_11, m_0 hS, m_K hS, sp_in, as_nil, as_i, as_r, Nat.reduceAdd, Nat.reduceLeDiff, z_eq0, z_eq1, z_or, z_em, Classical.not_not, not_false_eq_true, not_true_eq_false, true_and, and_true, false_and, and_false, and_self, true_implies, false_implies, implies_true, Option.toList_some, Option.toList_none, List.cons_append, List.nil_append, Nat.add_eq_zero_iff, a_nl_i, a_nl_r, a_nl_n, true_or, or_true, eq_self]
theorem sp_isAsk (hS : m_S M K L R) {v : Int32} : a_does (d + 2) 182 [a_rf M, .int v] (n, t, K, L, I, R) P ↔ P (some (.int (if 0 ≤ v ∧ v ≤ I M 17 - 1 then 1 else 0))) (n, t, K, L, I, R) := by
  rw [a_enter1 (M := a_m182) rfl (a_cat_rf (a_cat_int a_cat_nil)) (show 2 ≤ 2 by decide)]
  show a_at _ (a_xm a_m182) 0 [some (a_rf M), some (.int v)] [] _ _ ↔ _
  simp only [q182_0, q182_1, q182_2, q182_3, q182_6, q182_7, q182_8, q182_11, m_0 hS, m_K hS, sp_in, as_nil, as_i, as_r, Nat.reduceAdd, Nat.reduceLeDiff, z_eq0, z_eq1, z_or, z_em, Classical.not_not, not_false_eq_true, not_true_eq_false, true_and, and_true, false_and, and_false, and_self, true_implies, false_implies, implies_true, Option.toList_some, Option.toList_none, List.cons_append, List.nil_append, Nat.add_eq_zero_iff, a_nl_i, a_nl_r, a_nl_n, true_or, or_true, eq_self]
theorem sp_isBegun (hS : m_S M K L R) {v : Int32} : a_does (d + 1) 223 [a_rf M, .int v] (n, t, K, L, I, R) P ↔ P (some (.int (if 8 * v < I M 0 then 1 else 0))) (n, t, K, L, I, R) := by
  rw [a_enter1 (M := a_m223) rfl (a_cat_rf (a_cat_int a_cat_nil)) (show 2 ≤ 2 by decide)]
  show a_at _ (a_xm a_m223) 0 [some (a_rf M), some (.int v)] [] _ _ ↔ _
  simp only [q223_0, q223_1, q223_4, q223_6, q223_7, q223_8, q223_11, q223_12, q223_15, q223_16, m_0 hS, m_K hS, as_nil, as_i, as_r, Nat.reduceAdd, Nat.reduceLeDiff, z_eq0, z_eq1, z_or, z_em, Classical.not_not, not_false_eq_true, not_true_eq_false, true_and, and_true, false_and, and_false, and_self, true_implies, false_implies, implies_true, Option.toList_some, Option.toList_none, List.cons_append, List.nil_append, Nat.add_eq_zero_iff, a_nl_i, a_nl_r, a_nl_n, true_or, or_true, eq_self]
  grind
theorem sp_hasPlace (hS : m_S M K L R) {v : Int32} : a_does (d + 1) 185 [a_rf M, .int v] (n, t, K, L, I, R) P ↔ (0 ≤ v ∧ v < 30) ∧ P (some (.int (if 0 ≤ I (M + 20) v.toNatClampNeg then 1 else 0))) (n, t, K, L, I, R) := by
  rw [a_enter1 (M := a_m185) rfl (a_cat_rf (a_cat_int a_cat_nil)) (show 2 ≤ 2 by decide)]
  show a_at _ (a_xm a_m185) 0 [some (a_rf M), some (.int v)] [] _ _ ↔ _
  simp only [q185_0, q185_1, q185_4, q185_5, q185_6, q185_9, q185_10, q185_13, q185_14, m_0 hS, m_K hS, mR_atBench hS, mK_atBench hS, mL_atBench hS, as_nil, as_i, as_r, Nat.reduceAdd, Nat.reduceLeDiff, z_eq0, z_eq1, z_or, z_em, Classical.not_not, not_false_eq_true, not_true_eq_false, true_and, and_true, false_and, and_false, and_self, true_implies, false_implies, implies_true, Option.toList_some, Option.toList_none, List.cons_append, List.nil_append, Nat.add_eq_zero_iff, a_nl_i, a_nl_r, a_nl_n, true_or, or_true, eq_self, ok_4, ok_5, ok_6, ok_7, ok_9, ok_10, ok_20, ok_21, ok_24, ok_30, ok_48, ok_50, ok_60, ok_80, ok_120, ok_180, ok_192, ok_200, ok_900, ok_1000, ok_84000]
  grind
theorem sp_refuse (hS : m_S M K L R) {v : Int32} : a_does (d + 1) 171 [a_rf M, .int v] (n, t, K, L, I, R) P ↔ a_ok (-v) 7 ∧ P (some (.int v)) (n, t, K, L, a_ui I (M + 23) (-v).toNatClampNeg (I (M + 23) (-v).toNatClampNeg + 1), R) := by
  rw [a_enter1 (M := a_m171) rfl (a_cat_rf (a_cat_int a_cat_nil)) (show 2 ≤ 2 by decide)]
  show a_at _ (a_xm a_m171) 0 [some (a_rf M), some (.int v)] [] _ _ ↔ _
  simp only [q171_0, q171_1, q171_4, q171_5, q171_6, q171_7, q171_8, q171_9, q171_10, q171_11, q171_12, m_0 hS, m_K hS, mR_refused hS, mK_refused hS, mL_refused hS, as_nil, as_i, as_r, Nat.reduceAdd, Nat.reduceLeDiff, z_eq0, z_eq1, z_or, z_em, Classical.not_not, not_false_eq_true, not_true_eq_false, true_and, and_true, false_and, and_false, and_self, true_implies, false_implies, implies_true, Option.toList_some, Option.toList_none, List.cons_append, List.nil_append, Nat.add_eq_zero_iff, a_nl_i, a_nl_r, a_nl_n, true_or, or_true, eq_self, and_self_left]
theorem sp_refuseFar (hS : m_S M K L R) {v : Int32} : a_does (d + 1) 218 [a_rf M, .int v] (n, t, K, L, I, R) P ↔ a_ok (-v) 7 ∧ P (some (.int (1000000000 - v))) (n, t, K, L, a_ui I (M + 23) (-v).toNatClampNeg (I (M + 23) (-v).toNatClampNeg + 1), R) := by
  rw [a_enter1 (M := a_m218) rfl (a_cat_rf (a_cat_int a_cat_nil)) (show 2 ≤ 2 by decide)]
  show a_at _ (a_xm a_m218) 0 [some (a_rf M), some (.int v)] [] _ _ ↔ _
  simp only [q218_0, q218_1, q218_4, q218_5, q218_6, q218_7, q218_8, q218_9, q218_10, q218_11, q218_13, q218_14, q218_15, m_0 hS, m_K hS, mR_refused hS, mK_refused hS, mL_refused hS, as_nil, as_i, as_r, Nat.reduceAdd, Nat.reduceLeDiff, z_eq0, z_eq1, z_or, z_em, Classical.not_not, not_false_eq_true, not_true_eq_false, true_and, and_true, false_and, and_false, and_self, true_implies, false_implies, implies_true, Option.toList_some, Option.toList_none, List.cons_append, List.nil_append, Nat.add_eq_zero_iff, a_nl_i, a_nl_r, a_nl_n, true_or, or_true, eq_self, and_self_left]
theorem sp_refuse_1 (hS : m_S M K L R) : a_does (d + 1) 171 [a_rf M, .int (-1)] (n, t, K, L, I, R) P ↔ P (some (.int (-1))) (n, t, K, L, a_ui I (M + 23) 1 (I (M + 23) 1 + 1), R) := by
  rw [sp_refuse hS, eq_true ((ok_7 (- (-1))).mpr (by decide +kernel)), true_and]
  rfl
theorem sp_refuse_2 (hS : m_S M K L R) : a_does (d + 1) 171 [a_rf M, .int (-2)] (n, t, K, L, I, R) P ↔ P (some (.int (-2))) (n, t, K, L, a_ui I (M + 23) 2 (I (M + 23) 2 + 1), R) := by
  rw [sp_refuse hS, eq_true ((ok_7 (- (-2))).mpr (by decide +kernel)), true_and]
  rfl
theorem sp_refuse_3 (hS : m_S M K L R) : a_does (d + 1) 171 [a_rf M, .int (-3)] (n, t, K, L, I, R) P ↔ P (some (.int (-3))) (n, t, K, L, a_ui I (M + 23) 3 (I (M + 23) 3 + 1), R) := by
  rw [sp_refuse hS, eq_true ((ok_7 (- (-3))).mpr (by decide +kernel)), true_and]
  rfl
theorem sp_refuse_4 (hS : m_S M K L R) : a_does (d + 1) 171 [a_rf M, .int (-4)] (n, t, K, L, I, R) P ↔ P (some (.int (-4))) (n, t, K, L, a_ui I (M + 23) 4 (I (M + 23) 4 + 1), R) := by
  rw [sp_refuse hS, eq_true ((ok_7 (- (-4))).mpr (by decide +kernel)), true_and]
  rfl
theorem sp_refuse_5 (hS : m_S M K L R) : a_does (d + 1) 171 [a_rf M, .int (-5)] (n, t, K, L, I, R) P ↔ P (some (.int (-5))) (n, t, K, L, a_ui I (M + 23) 5 (I (M + 23) 5 + 1), R) := by
  rw [sp_refuse hS, eq_true ((ok_7 (- (-5))).mpr (by decide +kernel)), true_and]
  rfl
theorem sp_refuse_6 (hS : m_S M K L R) : a_does (d + 1) 171 [a_rf M, .int (-6)] (n, t, K, L, I, R) P ↔ P (some (.int (-6))) (n, t, K, L, a_ui I (M + 23) 6 (I (M + 23) 6 + 1), R) := by
  rw [sp_refuse hS, eq_true ((ok_7 (- (-6))).mpr (by decide +kernel)), true_and]
  rfl
theorem sp_refuseFar_1 (hS : m_S M K L R) : a_does (d + 1) 218 [a_rf M, .int (-1)] (n, t, K, L, I, R) P ↔ P (some (.int (1000000000 - (-1)))) (n, t, K, L, a_ui I (M + 23) 1 (I (M + 23) 1 + 1), R) := by
  rw [sp_refuseFar hS, eq_true ((ok_7 (- (-1))).mpr (by decide +kernel)), true_and]
  rfl
theorem sp_refuseFar_2 (hS : m_S M K L R) : a_does (d + 1) 218 [a_rf M, .int (-2)] (n, t, K, L, I, R) P ↔ P (some (.int (1000000000 - (-2)))) (n, t, K, L, a_ui I (M + 23) 2 (I (M + 23) 2 + 1), R) := by
  rw [sp_refuseFar hS, eq_true ((ok_7 (- (-2))).mpr (by decide +kernel)), true_and]
  rfl
theorem sp_topSign (hS : m_S M K L R) : a_does (d + 1) 205 [a_rf M] (n, t, K, L, I, R) P ↔ (I M 56 = 0 → P (some (.int 0)) (n, t, K, L, I, R)) ∧ (¬ I M 56 = 0 → (0 ≤ I M 56 - 1 ∧ I M 56 - 1 < 60) ∧ P (some (.int (I (M + 34) (I M 56 - 1).toNatClampNeg))) (n, t, K, L, I, R)) := by
  rw [a_enter1 (M := a_m205) rfl (a_cat_rf a_cat_nil) (show 1 ≤ 1 by decide)]
  show a_at _ (a_xm a_m205) 0 [some (a_rf M)] [] _ _ ↔ _
  simp only [q205_0, q205_1, q205_4, q205_7, q205_8, q205_11, q205_12, q205_15, q205_16, q205_19, q205_20, q205_21, q205_22, m_0 hS, m_K hS, mR_signs hS, mK_signs hS, mL_signs hS, as_nil, as_i, as_r, Nat.reduceAdd, Nat.reduceLeDiff, z_eq0, z_eq1, z_or, z_em, Classical.not_not, not_false_eq_true, not_true_eq_false, true_and, and_true, false_and, and_false, and_self, true_implies, false_implies, implies_true, Option.toList_some, Option.toList_none, List.cons_append, List.nil_append, Nat.add_eq_zero_iff, a_nl_i, a_nl_r, a_nl_n, true_or, or_true, eq_self, ok_4, ok_5, ok_6, ok_7, ok_9, ok_10, ok_20, ok_21, ok_24, ok_30, ok_48, ok_50, ok_60, ok_80, ok_120, ok_180, ok_192, ok_200, ok_900, ok_1000, ok_84000]
  grind
theorem sp_holdsAt (hS : m_S M K L R) {a b s : Int32} : a_does (d + 2) 224 [a_rf M, .int a, .int b, .int s] (n, t, K, L, I, R) P ↔ (0 ≤ a ∧ a < 30) ∧ P (some (.int (if 0 ≤ I (M + 20) a.toNatClampNeg ∧ I (M + 20) a.toNatClampNeg = b ∧ I (M + 21) a.toNatClampNeg ≤ s ∧ s < I (M + 21) a.toNatClampNeg + I (M + 10) a.toNatClampNeg then 1 else 0))) (n, t, K, L, I, R) := by
  rw [a_enter1 (M := a_m224) rfl (a_cat_rf (a_cat_int (a_cat_int (a_cat_int a_cat_nil)))) (show 4 ≤ 4 by decide)]
  show a_at _ (a_xm a_m224) 0 [some (a_rf M), some (.int a), some (.int b), some (.int s)] [] _ _ ↔ _
  simp only [q224_0, q224_1, q224_2, q224_5, q224_8, q224_9, q224_12, q224_13, q224_14, q224_15, q224_18, q224_19, q224_20, q224_23, q224_24, q224_25, q224_28, q224_29, q224_30, q224_33, q224_34, q224_35, q224_36, q224_39, q224_40, q224_41, q224_42, q224_45, q224_46, q224_49, q224_50, m_0 hS, m_K hS, mR_atBench hS, mK_atBench hS, mL_atBench hS, mR_atShift hS, mK_atShift hS, mL_atShift hS, mR_length hS, mK_length hS, mL_length hS, sp_hasPlace hS, as_nil, as_i, as_r, Nat.reduceAdd, Nat.reduceLeDiff, z_eq0, z_eq1, z_or, z_em, Classical.not_not, not_false_eq_true, not_true_eq_false, true_and, and_true, false_and, and_false, and_self, true_implies, false_implies, implies_true, Option.toList_some, Option.toList_none, List.cons_append, List.nil_append, Nat.add_eq_zero_iff, a_nl_i, a_nl_r, a_nl_n, true_or, or_true, eq_self, ok_4, ok_5, ok_6, ok_7, ok_9, ok_10, ok_20, ok_21, ok_24, ok_30, ok_48, ok_50, ok_60, ok_80, ok_120, ok_180, ok_192, ok_200, ok_900, ok_1000, ok_84000]
  by_cases h0 : 0 ≤ a ∧ a < 30
  · simp only [h0, and_self, true_and]
    grind
  · simp only [h0, false_and]
theorem sp_isInForce (hS : m_S M K L R) {a b s : Int32} : a_does (d + 1) 191 [a_rf M, .int a, .int b, .int s] (n, t, K, L, I, R) P ↔ (0 ≤ 50 * a ∧ 50 * a < 1000) ∧ (I (M + 28) (50 * a).toNatClampNeg = b → 0 ≤ a ∧ a < 20) ∧ P (some (.int (if I (M + 28) (50 * a).toNatClampNeg = b ∧ I (M + 30) a.toNatClampNeg ≤ s ∧ s < I (M + 31) a.toNatClampNeg then 1 else 0))) (n, t, K, L, I, R) := by
  rw [a_enter1 (M := a_m191) rfl (a_cat_rf (a_cat_int (a_cat_int (a_cat_int a_cat_nil)))) (show 4 ≤ 4 by decide)]
  show a_at _ (a_xm a_m191) 0 [some (a_rf M), some (.int a), some (.int b), some (.int s)] [] _ _ ↔ _
  simp only [q191_0, q191_1, q191_4, q191_6, q191_7, q191_8, q191_9, q191_10, q191_13, q191_14, q191_17, q191_18, q191_19, q191_20, q191_23, q191_24, q191_25, q191_28, q191_29, q191_30, q191_33, q191_34, q191_37, q191_38, m_0 hS, m_K hS, mR_written hS, mK_written hS, mL_written hS, mR_textFrom hS, mK_textFrom hS, mL_textFrom hS, mR_struckFrom hS, mK_struckFrom hS, mL_struckFrom hS, as_nil, as_i, as_r, Nat.reduceAdd, Nat.reduceLeDiff, z_eq0, z_eq1, z_or, z_em, Classical.not_not, not_false_eq_true, not_true_eq_false, true_and, and_true, false_and, and_false, and_self, true_implies, false_implies, implies_true, Option.toList_some, Option.toList_none, List.cons_append, List.nil_append, Nat.add_eq_zero_iff, a_nl_i, a_nl_r, a_nl_n, true_or, or_true, eq_self, ok_4, ok_5, ok_6, ok_7, ok_9, ok_10, ok_20, ok_21, ok_24, ok_30, ok_48, ok_50, ok_60, ok_80, ok_120, ok_180, ok_192, ok_200, ok_900, ok_1000, ok_84000]
  by_cases h0 : 0 ≤ 50 * a ∧ 50 * a < 1000
  · simp only [h0, and_self, true_and]
    grind
  · simp only [h0, false_and]
end RL
end
section
/-! methods that change nothing -/
section RP
variable {d n t M : Nat} {K L : Nat → Nat} {I : Nat → Nat → Int32} {R : Nat → Nat → Nat} {P : Option Value → AH → Prop}
theorem lp_habitOf_19 (hS : m_S M K L R) (hR : mR M I) {r a : Int32} (hr : 0 ≤ r ∧ r ≤ 5) (ha : 0 ≤ a ∧ a < 30) (hC : ∀ s q o, a_at d (a_xm a_m194) 7 [some (a_rf M), some (.int r), some (.int s), some (.int q), some (.int (a + 1)), some (.int o)] [] (n, t, K, L, I, R) P) : ∀ o : Int32, o ≤ 6 → ∀ s q, 0 ≤ o → a_at d (a_xm a_m194) 19 [some (a_rf M), some (.int r), some (.int s), some (.int q), some (.int a), some (.int o)] [] (n, t, K, L, I, R) P := by
  refine up_ind 6 (fun o ho ih => ?_)
  intro s q h0
  rw [q194_19]
  repeat' first
    | with_reducible apply And.intro
    | with_reducible assumption
    | with_reducible intro _
    | with_reducible apply ih
    | with_reducible apply hC
    | simp only [q194_0, q194_1, q194_2, q194_3, q194_4, q194_5, q194_9, q194_10, q194_13, q194_16, q194_17, q194_21, q194_23, q194_26, q194_27, q194_30, q194_32, q194_33, q194_34, q194_36, q194_37, q194_38, q194_41, q194_43, q194_44, q194_47, q194_48, q194_51, q194_53, q194_55, q194_56, q194_58, q194_59, q194_60, q194_63, q194_64, q194_65, q194_68, q194_70, q194_71, q194_72, q194_74, q194_75, q194_76, q194_77, q194_80, q194_82, q194_84, q194_85, q194_87, q194_88, q194_89, q194_90, q194_91, q194_92, q194_95, q194_98, q194_101, q194_104, q194_107, q194_108, q194_111, q194_112, q194_113, q194_114, q194_117, q194_118, q194_119, q194_120, q194_123, q194_124, q194_125, q194_126, q194_127, q194_128, q194_129, q194_130, q194_131, m_0 hS, m_K hS, mR_doesCount hS, mK_doesCount hS, mL_doesCount hS, mR_marks hS, mK_marks hS, mL_marks hS, as_nil, as_i, as_r, Nat.reduceAdd, Nat.reduceLeDiff, z_eq0, z_eq1, z_or, z_em, Classical.not_not, not_false_eq_true, not_true_eq_false, true_and, and_true, false_and, and_false, and_self, true_implies, false_implies, implies_true, Option.toList_some, Option.toList_none, List.cons_append, List.nil_append, Nat.add_eq_zero_iff, a_nl_i, a_nl_r, a_nl_n, true_or, or_true, eq_self, ok_4, ok_5, ok_6, ok_7, ok_9, ok_10, ok_20, ok_21, ok_24, ok_30, ok_48, ok_50, ok_60, ok_80, ok_120, ok_180, ok_192, ok_200, ok_900, ok_1000, ok_84000]
  all_goals grind [ui_ap]
theorem lp_habitOf_7 (hS : m_S M K L R) (hR : mR M I) {r : Int32} (hr : 0 ≤ r ∧ r ≤ 5) (hP : ∀ v, P (some (.int v)) (n, t, K, L, I, R)) : ∀ a : Int32, a ≤ 30 → ∀ s q o, 0 ≤ a → a_at d (a_xm a_m194) 7 [some (a_rf M), some (.int r), some (.int s), some (.int q), some (.int a), o] [] (n, t, K, L, I, R) P := by
  refine up_ind 30 (fun a ha ih => ?_)
  intro s q o h0
  have g1 := rg_asks hR
  rw [q194_7]
  repeat' first
    | with_reducible apply And.intro
    | with_reducible assumption
    | with_reducible intro _
    | with_reducible apply ih
    | with_reducible apply hP
    | with_reducible apply lp_habitOf_19 hS hR hr
    | simp only [q194_0, q194_1, q194_2, q194_3, q194_4, q194_5, q194_9, q194_10, q194_13, q194_16, q194_17, q194_21, q194_23, q194_26, q194_27, q194_30, q194_32, q194_33, q194_34, q194_36, q194_37, q194_38, q194_41, q194_43, q194_44, q194_47, q194_48, q194_51, q194_53, q194_55, q194_56, q194_58, q194_59, q194_60, q194_63, q194_64, q194_65, q194_68, q194_70, q194_71, q194_72, q194_74, q194_75, q194_76, q194_77, q194_80, q194_82, q194_84, q194_85, q194_87, q194_88, q194_89, q194_90, q194_91, q194_92, q194_95, q194_98, q194_101, q194_104, q194_107, q194_108, q194_111, q194_112, q194_113, q194_114, q194_117, q194_118, q194_119, q194_120, q194_123, q194_124, q194_125, q194_126, q194_127, q194_128, q194_129, q194_130, q194_131, m_0 hS, m_K hS, mR_doesCount hS, mK_doesCount hS, mL_doesCount hS, mR_marks hS, mK_marks hS, mL_marks hS, as_nil, as_i, as_r, Nat.reduceAdd, Nat.reduceLeDiff, z_eq0, z_eq1, z_or, z_em, Classical.not_not, not_false_eq_true, not_true_eq_false, true_and, and_true, false_and, and_false, and_self, true_implies, false_implies, implies_true, Option.toList_some, Option.toList_none, List.cons_append, List.nil_append, Nat.add_eq_zero_iff, a_nl_i, a_nl_r, a_nl_n, true_or, or_true, eq_self, ok_4, ok_5, ok_6, ok_7, ok_9, ok_10, ok_20, ok_21, ok_24, ok_30, ok_48, ok_50, ok_60, ok_80, ok_120, ok_180, ok_192, ok_200, ok_900, ok_1000, ok_84000]
  all_goals grind [ui_ap]
theorem ct_habitOf (hS : m_S M K L R) (hR : mR M I) {r : Int32} (hr : 0 ≤ r ∧ r ≤ 5) (hP : ∀ v, P (some (.int v)) (n, t, K, L, I, R)) : a_does (d + 1) 194 [a_rf M, .int r] (n, t, K, L, I, R) P := by
  rw [a_enter1 (M := a_m194) rfl (a_cat_rf (a_cat_int a_cat_nil)) (show 2 ≤ 6 by decide)]
  show a_at _ (a_xm a_m194) 0 [some (a_rf M), some (.int r), none, none, none, none] [] _ _
  repeat' first
    | with_reducible apply And.intro
    | with_reducible assumption
    | with_reducible intro _
    | with_reducible apply lp_habitOf_7 hS hR hr hP
    | simp only [q194_0, q194_1, q194_2, q194_3, q194_4, q194_5, q194_9, q194_10, q194_13, q194_16, q194_17, q194_21, q194_23, q194_26, q194_27, q194_30, q194_32, q194_33, q194_34, q194_36, q194_37, q194_38, q194_41, q194_43, q194_44, q194_47, q194_48, q194_51, q194_53, q194_55, q194_56, q194_58, q194_59, q194_60, q194_63, q194_64, q194_65, q194_68, q194_70, q194_71, q194_72, q194_74, q194_75, q194_76, q194_77, q194_80, q194_82, q194_84, q194_85, q194_87, q194_88, q194_89, q194_90, q194_91, q194_92, q194_95, q194_98, q194_101, q194_104, q194_107, q194_108, q194_111, q194_112, q194_113, q194_114, q194_117, q194_118, q194_119, q194_120, q194_123, q194_124, q194_125, q194_126, q194_127, q194_128, q194_129, q194_130, q194_131, m_0 hS, m_K hS, mR_doesCount hS, mK_doesCount hS, mL_doesCount hS, mR_marks hS, mK_marks hS, mL_marks hS, as_nil, as_i, as_r, Nat.reduceAdd, Nat.reduceLeDiff, z_eq0, z_eq1, z_or, z_em, Classical.not_not, not_false_eq_true, not_true_eq_false, true_and, and_true, false_and, and_false, and_self, true_implies, false_implies, implies_true, Option.toList_some, Option.toList_none, List.cons_append, List.nil_append, Nat.add_eq_zero_iff, a_nl_i, a_nl_r, a_nl_n, true_or, or_true, eq_self, ok_4, ok_5, ok_6, ok_7, ok_9, ok_10, ok_20, ok_21, ok_24, ok_30, ok_48, ok_50, ok_60, ok_80, ok_120, ok_180, ok_192, ok_200, ok_900, ok_1000, ok_84000]
  all_goals grind [ui_ap]
theorem lp_doubtOf_23 (hS : m_S M K L R) (hR : mR M I) {r a : Int32} (hr : 0 ≤ r ∧ r ≤ 5) (ha : 0 ≤ a ∧ a < 30) (hC : ∀ s q o l, a_at d (a_xm a_m219) 11 [some (a_rf M), some (.int r), some (.int s), some (.int q), some (.int (a + 1)), some (.int o), l] [] (n, t, K, L, I, R) P) : ∀ o : Int32, o ≤ 6 → ∀ s q l, 0 ≤ o → a_at d (a_xm a_m219) 23 [some (a_rf M), some (.int r), some (.int s), some (.int q), some (.int a), some (.int o), l] [] (n, t, K, L, I, R) P := by
  refine up_ind 6 (fun o ho ih => ?_)
  intro s q l h0
  rw [q219_23]
  repeat' first
    | with_reducible apply And.intro
    | with_reducible assumption
    | with_reducible intro _
    | with_reducible apply ih
    | with_reducible apply hC
    | simp only [q219_0, q219_3, q219_4, q219_7, q219_8, q219_9, q219_13, q219_14, q219_17, q219_20, q219_21, q219_25, q219_27, q219_30, q219_31, q219_34, q219_36, q219_37, q219_38, q219_40, q219_41, q219_42, q219_45, q219_47, q219_48, q219_51, q219_52, q219_55, q219_57, q219_59, q219_60, q219_62, q219_63, q219_64, q219_67, q219_68, q219_71, q219_73, q219_74, q219_75, q219_77, q219_78, q219_79, q219_80, q219_83, q219_85, q219_87, q219_88, q219_90, q219_91, q219_92, q219_93, q219_95, q219_97, q219_98, q219_101, q219_103, q219_106, q219_107, q219_108, q219_110, q219_111, q219_114, q219_116, q219_119, q219_120, q219_121, q219_124, q219_127, q219_130, q219_133, q219_134, q219_135, q219_138, q219_139, q219_142, q219_143, q219_144, q219_145, m_0 hS, m_K hS, mR_doesCount hS, mK_doesCount hS, mL_doesCount hS, mR_marks hS, mK_marks hS, mL_marks hS, as_nil, as_i, as_r, Nat.reduceAdd, Nat.reduceLeDiff, z_eq0, z_eq1, z_or, z_em, Classical.not_not, not_false_eq_true, not_true_eq_false, true_and, and_true, false_and, and_false, and_self, true_implies, false_implies, implies_true, Option.toList_some, Option.toList_none, List.cons_append, List.nil_append, Nat.add_eq_zero_iff, a_nl_i, a_nl_r, a_nl_n, true_or, or_true, eq_self, ok_4, ok_5, ok_6, ok_7, ok_9, ok_10, ok_20, ok_21, ok_24, ok_30, ok_48, ok_50, ok_60, ok_80, ok_120, ok_180, ok_192, ok_200, ok_900, ok_1000, ok_84000]
  all_goals grind [ui_ap]
theorem lp_doubtOf_11 (hS : m_S M K L R) (hR : mR M I) {r : Int32} (hr : 0 ≤ r ∧ r ≤ 5) (hP : ∀ v, P (some (.int v)) (n, t, K, L, I, R)) : ∀ a : Int32, a ≤ 30 → ∀ s q o l, 0 ≤ a → a_at d (a_xm a_m219) 11 [some (a_rf M), some (.int r), some (.int s), some (.int q), some (.int a), o, l] [] (n, t, K, L, I, R) P := by
  refine up_ind 30 (fun a ha ih => ?_)
  intro s q o l h0
  have g1 := rg_asks hR
  rw [q219_11]
  repeat' first
    | with_reducible apply And.intro
    | with_reducible assumption
    | with_reducible intro _
    | with_reducible apply ih
    | with_reducible apply hP
    | with_reducible apply lp_doubtOf_23 hS hR hr
    | simp only [q219_0, q219_3, q219_4, q219_7, q219_8, q219_9, q219_13, q219_14, q219_17, q219_20, q219_21, q219_25, q219_27, q219_30, q219_31, q219_34, q219_36, q219_37, q219_38, q219_40, q219_41, q219_42, q219_45, q219_47, q219_48, q219_51, q219_52, q219_55, q219_57, q219_59, q219_60, q219_62, q219_63, q219_64, q219_67, q219_68, q219_71, q219_73, q219_74, q219_75, q219_77, q219_78, q219_79, q219_80, q219_83, q219_85, q219_87, q219_88, q219_90, q219_91, q219_92, q219_93, q219_95, q219_97, q219_98, q219_101, q219_103, q219_106, q219_107, q219_108, q219_110, q219_111, q219_114, q219_116, q219_119, q219_120, q219_121, q219_124, q219_127, q219_130, q219_133, q219_134, q219_135, q219_138, q219_139, q219_142, q219_143, q219_144, q219_145, m_0 hS, m_K hS, mR_doesCount hS, mK_doesCount hS, mL_doesCount hS, mR_marks hS, mK_marks hS, mL_marks hS, as_nil, as_i, as_r, Nat.reduceAdd, Nat.reduceLeDiff, z_eq0, z_eq1, z_or, z_em, Classical.not_not, not_false_eq_true, not_true_eq_false, true_and, and_true, false_and, and_false, and_self, true_implies, false_implies, implies_true, Option.toList_some, Option.toList_none, List.cons_append, List.nil_append, Nat.add_eq_zero_iff, a_nl_i, a_nl_r, a_nl_n, true_or, or_true, eq_self, ok_4, ok_5, ok_6, ok_7, ok_9, ok_10, ok_20, ok_21, ok_24, ok_30, ok_48, ok_50, ok_60, ok_80, ok_120, ok_180, ok_192, ok_200, ok_900, ok_1000, ok_84000]
  all_goals grind [ui_ap]
theorem ct_doubtOf (hS : m_S M K L R) (hR : mR M I) {r : Int32} (hr : 0 ≤ r ∧ r ≤ 5) (hP : ∀ v, P (some (.int v)) (n, t, K, L, I, R)) : a_does (d + 1) 219 [a_rf M, .int r] (n, t, K, L, I, R) P := by
  rw [a_enter1 (M := a_m219) rfl (a_cat_rf (a_cat_int a_cat_nil)) (show 2 ≤ 7 by decide)]
  show a_at _ (a_xm a_m219) 0 [some (a_rf M), some (.int r), none, none, none, none, none] [] _ _
  repeat' first
    | with_reducible apply And.intro
    | with_reducible assumption
    | with_reducible intro _
    | with_reducible apply lp_doubtOf_11 hS hR hr hP
    | simp only [q219_0, q219_3, q219_4, q219_7, q219_8, q219_9, q219_13, q219_14, q219_17, q219_20, q219_21, q219_25, q219_27, q219_30, q219_31, q219_34, q219_36, q219_37, q219_38, q219_40, q219_41, q219_42, q219_45, q219_47, q219_48, q219_51, q219_52, q219_55, q219_57, q219_59, q219_60, q219_62, q219_63, q219_64, q219_67, q219_68, q219_71, q219_73, q219_74, q219_75, q219_77, q219_78, q219_79, q219_80, q219_83, q219_85, q219_87, q219_88, q219_90, q219_91, q219_92, q219_93, q219_95, q219_97, q219_98, q219_101, q219_103, q219_106, q219_107, q219_108, q219_110, q219_111, q219_114, q219_116, q219_119, q219_120, q219_121, q219_124, q219_127, q219_130, q219_133, q219_134, q219_135, q219_138, q219_139, q219_142, q219_143, q219_144, q219_145, m_0 hS, m_K hS, mR_doesCount hS, mK_doesCount hS, mL_doesCount hS, mR_marks hS, mK_marks hS, mL_marks hS, as_nil, as_i, as_r, Nat.reduceAdd, Nat.reduceLeDiff, z_eq0, z_eq1, z_or, z_em, Classical.not_not, not_false_eq_true, not_true_eq_false, true_and, and_true, false_and, and_false, and_self, true_implies, false_implies, implies_true, Option.toList_some, Option.toList_none, List.cons_append, List.nil_append, Nat.add_eq_zero_iff, a_nl_i, a_nl_r, a_nl_n, true_or, or_true, eq_self, ok_4, ok_5, ok_6, ok_7, ok_9, ok_10, ok_20, ok_21, ok_24, ok_30, ok_48, ok_50, ok_60, ok_80, ok_120, ok_180, ok_192, ok_200, ok_900, ok_1000, ok_84000]
  all_goals grind [ui_ap]
theorem lp_markFor_7 (hS : m_S M K L R) (hR : mR M I) {a : Int32} (ha : 0 ≤ a ∧ a < 30) (hP : ∀ v, -9 ≤ v → P (some (.int v)) (n, t, K, L, I, R)) : ∀ r : Int32, r ≤ 6 → ∀ c s, 0 ≤ r → a_at (d + 1) (a_xm a_m193) 7 [some (a_rf M), some (.int a), some (.int c), some (.int s), some (.int r)] [] (n, t, K, L, I, R) P := by
  refine up_ind 6 (fun r hr ih => ?_)
  intro c s h0
  rw [q193_7]
  repeat' first
    | with_reducible apply And.intro
    | with_reducible assumption
    | with_reducible intro _
    | with_reducible apply ih
    | with_reducible apply hP
    | with_reducible apply ct_habitOf hS hR
    | simp only [q193_0, q193_1, q193_2, q193_3, q193_4, q193_5, q193_9, q193_11, q193_14, q193_15, q193_18, q193_20, q193_22, q193_23, q193_24, q193_25, q193_26, q193_29, q193_32, q193_33, q193_34, q193_37, q193_39, q193_41, q193_42, q193_43, q193_44, q193_45, q193_46, q193_49, q193_50, q193_53, q193_54, q193_56, q193_59, q193_62, q193_63, q193_64, q193_65, q193_66, q193_69, q193_72, q193_73, q193_76, q193_78, q193_79, q193_80, q193_81, q193_82, q193_84, q193_86, q193_89, q193_90, q193_93, q193_95, q193_97, q193_100, q193_102, q193_105, q193_107, m_0 hS, m_K hS, mR_doesCount hS, mK_doesCount hS, mL_doesCount hS, mR_marks hS, mK_marks hS, mL_marks hS, as_nil, as_i, as_r, Nat.reduceAdd, Nat.reduceLeDiff, z_eq0, z_eq1, z_or, z_em, Classical.not_not, not_false_eq_true, not_true_eq_false, true_and, and_true, false_and, and_false, and_self, true_implies, false_implies, implies_true, Option.toList_some, Option.toList_none, List.cons_append, List.nil_append, Nat.add_eq_zero_iff, a_nl_i, a_nl_r, a_nl_n, true_or, or_true, eq_self, ok_4, ok_5, ok_6, ok_7, ok_9, ok_10, ok_20, ok_21, ok_24, ok_30, ok_48, ok_50, ok_60, ok_80, ok_120, ok_180, ok_192, ok_200, ok_900, ok_1000, ok_84000]
  all_goals grind [ui_ap]
theorem ct_markFor (hS : m_S M K L R) (hR : mR M I) {a : Int32} (ha : 0 ≤ a ∧ a < 30) (hP : ∀ v, -9 ≤ v → P (some (.int v)) (n, t, K, L, I, R)) : a_does (d + 2) 193 [a_rf M, .int a] (n, t, K, L, I, R) P := by
  rw [a_enter1 (M := a_m193) rfl (a_cat_rf (a_cat_int a_cat_nil)) (show 2 ≤ 5 by decide)]
  show a_at _ (a_xm a_m193) 0 [some (a_rf M), some (.int a), none, none, none] [] _ _
  repeat' first
    | with_reducible apply And.intro
    | with_reducible assumption
    | with_reducible intro _
    | with_reducible apply lp_markFor_7 hS hR ha hP
    | simp only [q193_0, q193_1, q193_2, q193_3, q193_4, q193_5, q193_9, q193_11, q193_14, q193_15, q193_18, q193_20, q193_22, q193_23, q193_24, q193_25, q193_26, q193_29, q193_32, q193_33, q193_34, q193_37, q193_39, q193_41, q193_42, q193_43, q193_44, q193_45, q193_46, q193_49, q193_50, q193_53, q193_54, q193_56, q193_59, q193_62, q193_63, q193_64, q193_65, q193_66, q193_69, q193_72, q193_73, q193_76, q193_78, q193_79, q193_80, q193_81, q193_82, q193_84, q193_86, q193_89, q193_90, q193_93, q193_95, q193_97, q193_100, q193_102, q193_105, q193_107, m_0 hS, m_K hS, mR_doesCount hS, mK_doesCount hS, mL_doesCount hS, mR_marks hS, mK_marks hS, mL_marks hS, as_nil, as_i, as_r, Nat.reduceAdd, Nat.reduceLeDiff, z_eq0, z_eq1, z_or, z_em, Classical.not_not, not_false_eq_true, not_true_eq_false, true_and, and_true, false_and, and_false, and_self, true_implies, false_implies, implies_true, Option.toList_some, Option.toList_none, List.cons_append, List.nil_append, Nat.add_eq_zero_iff, a_nl_i, a_nl_r, a_nl_n, true_or, or_true, eq_self, ok_4, ok_5, ok_6, ok_7, ok_9, ok_10, ok_20, ok_21, ok_24, ok_30, ok_48, ok_50, ok_60, ok_80, ok_120, ok_180, ok_192, ok_200, ok_900, ok_1000, ok_84000]
  all_goals grind [ui_ap]
theorem ct_markAt (hS : m_S M K L R) (hR : mR M I) {a : Int32} (ha : 0 ≤ a ∧ a < 30) (hP : ∀ v, 0 ≤ v → P (some (.int v)) (n, t, K, L, I, R)) : a_does (d + 3) 244 [a_rf M, .int a] (n, t, K, L, I, R) P := by
  rw [a_enter1 (M := a_m244) rfl (a_cat_rf (a_cat_int a_cat_nil)) (show 2 ≤ 3 by decide)]
  show a_at _ (a_xm a_m244) 0 [some (a_rf M), some (.int a), none] [] _ _
  repeat' first
    | with_reducible apply And.intro
    | with_reducible assumption
    | with_reducible intro _
    | with_reducible apply hP
    | with_reducible apply ct_markFor hS hR ha
    | simp only [q244_0, q244_1, q244_2, q244_5, q244_6, q244_7, q244_10, q244_11, q244_14, q244_15, m_0 hS, m_K hS, as_nil, as_i, as_r, Nat.reduceAdd, Nat.reduceLeDiff, z_eq0, z_eq1, z_or, z_em, Classical.not_not, not_false_eq_true, not_true_eq_false, true_and, and_true, false_and, and_false, and_self, true_implies, false_implies, implies_true, Option.toList_some, Option.toList_none, List.cons_append, List.nil_append, Nat.add_eq_zero_iff, a_nl_i, a_nl_r, a_nl_n, true_or, or_true, eq_self, ok_4, ok_5, ok_6, ok_7, ok_9, ok_10, ok_20, ok_21, ok_24, ok_30, ok_48, ok_50, ok_60, ok_80, ok_120, ok_180, ok_192, ok_200, ok_900, ok_1000, ok_84000]
  all_goals grind [ui_ap]
theorem lp_lostIn_26 (hS : m_S M K L R) (hR : mR M I) {s k b h : Int32} (hC : ∀ is j, a_at d (a_xm a_m177) 96 [some (a_rf M), some (.int s), some (.int k), some (.int b), some (.int h), some (.int is), some (.int j)] [] (n, t, K, L, I, R) P) : ∀ j : Int32, j ≤ 20 → ∀ is, 0 ≤ j → a_at d (a_xm a_m177) 26 [some (a_rf M), some (.int s), some (.int k), some (.int b), some (.int h), some (.int is), some (.int j)] [] (n, t, K, L, I, R) P := by
  refine up_ind 20 (fun j hj ih => ?_)
  intro is h0
  have g1 := rg_trips hR
  rw [q177_26]
  repeat' first
    | with_reducible apply And.intro
    | with_reducible assumption
    | with_reducible intro _
    | with_reducible apply ih
    | with_reducible apply hC
    | simp only [q177_0, q177_1, q177_2, q177_4, q177_5, q177_6, q177_10, q177_12, q177_13, q177_14, q177_16, q177_17, q177_20, q177_21, q177_23, q177_24, q177_28, q177_29, q177_32, q177_35, q177_37, q177_40, q177_41, q177_44, q177_46, q177_47, q177_48, q177_51, q177_53, q177_54, q177_57, q177_59, q177_60, q177_63, q177_65, q177_66, q177_69, q177_71, q177_72, q177_73, q177_76, q177_78, q177_79, q177_80, q177_83, q177_84, q177_87, q177_88, q177_90, q177_93, q177_97, q177_99, q177_102, q177_103, q177_106, q177_107, q177_108, q177_109, q177_112, q177_115, q177_116, m_0 hS, m_K hS, mR_tFound hS, mK_tFound hS, mL_tFound hS, mR_tHour hS, mK_tHour hS, mL_tHour hS, mR_tMany hS, mK_tMany hS, mL_tMany hS, as_nil, as_i, as_r, Nat.reduceAdd, Nat.reduceLeDiff, z_eq0, z_eq1, z_or, z_em, Classical.not_not, not_false_eq_true, not_true_eq_false, true_and, and_true, false_and, and_false, and_self, true_implies, false_implies, implies_true, Option.toList_some, Option.toList_none, List.cons_append, List.nil_append, Nat.add_eq_zero_iff, a_nl_i, a_nl_r, a_nl_n, true_or, or_true, eq_self, ok_4, ok_5, ok_6, ok_7, ok_9, ok_10, ok_20, ok_21, ok_24, ok_30, ok_48, ok_50, ok_60, ok_80, ok_120, ok_180, ok_192, ok_200, ok_900, ok_1000, ok_84000]
  all_goals grind [ui_ap]
theorem lp_lostIn_8 (hS : m_S M K L R) (hR : mR M I) {s k : Int32} (hs : -1000 ≤ s ∧ s ≤ 1000) (hP : ∀ v, (0 ≤ v ∧ v ≤ 8) → P (some (.int v)) (n, t, K, L, I, R)) : ∀ h : Int32, h ≤ 8 * s + 8 → ∀ b is j, 8 * s ≤ h → (0 ≤ b ∧ b ≤ h - 8 * s) → a_at d (a_xm a_m177) 8 [some (a_rf M), some (.int s), some (.int k), some (.int b), some (.int h), is, j] [] (n, t, K, L, I, R) P := by
  refine up_ind (8 * s + 8) (fun h hh ih => ?_)
  intro b is j h0 hb
  rw [q177_8]
  repeat' first
    | with_reducible apply And.intro
    | with_reducible assumption
    | with_reducible intro _
    | with_reducible apply ih
    | with_reducible apply hP
    | with_reducible apply lp_lostIn_26 hS hR
    | simp only [q177_0, q177_1, q177_2, q177_4, q177_5, q177_6, q177_10, q177_12, q177_13, q177_14, q177_16, q177_17, q177_20, q177_21, q177_23, q177_24, q177_28, q177_29, q177_32, q177_35, q177_37, q177_40, q177_41, q177_44, q177_46, q177_47, q177_48, q177_51, q177_53, q177_54, q177_57, q177_59, q177_60, q177_63, q177_65, q177_66, q177_69, q177_71, q177_72, q177_73, q177_76, q177_78, q177_79, q177_80, q177_83, q177_84, q177_87, q177_88, q177_90, q177_93, q177_96, q177_97, q177_99, q177_102, q177_103, q177_106, q177_107, q177_108, q177_109, q177_112, q177_115, q177_116, m_0 hS, m_K hS, mR_tFound hS, mK_tFound hS, mL_tFound hS, mR_tHour hS, mK_tHour hS, mL_tHour hS, mR_tMany hS, mK_tMany hS, mL_tMany hS, as_nil, as_i, as_r, Nat.reduceAdd, Nat.reduceLeDiff, z_eq0, z_eq1, z_or, z_em, Classical.not_not, not_false_eq_true, not_true_eq_false, true_and, and_true, false_and, and_false, and_self, true_implies, false_implies, implies_true, Option.toList_some, Option.toList_none, List.cons_append, List.nil_append, Nat.add_eq_zero_iff, a_nl_i, a_nl_r, a_nl_n, true_or, or_true, eq_self, ok_4, ok_5, ok_6, ok_7, ok_9, ok_10, ok_20, ok_21, ok_24, ok_30, ok_48, ok_50, ok_60, ok_80, ok_120, ok_180, ok_192, ok_200, ok_900, ok_1000, ok_84000]
  all_goals grind [ui_ap]
theorem ct_lostIn (hS : m_S M K L R) (hR : mR M I) {s k : Int32} (hs : -1000 ≤ s ∧ s ≤ 1000) (hP : ∀ v, (0 ≤ v ∧ v ≤ 8) → P (some (.int v)) (n, t, K, L, I, R)) : a_does (d + 1) 177 [a_rf M, .int s, .int k] (n, t, K, L, I, R) P := by
  rw [a_enter1 (M := a_m177) rfl (a_cat_rf (a_cat_int (a_cat_int a_cat_nil))) (show 3 ≤ 7 by decide)]
  show a_at _ (a_xm a_m177) 0 [some (a_rf M), some (.int s), some (.int k), none, none, none, none] [] _ _
  repeat' first
    | with_reducible apply And.intro
    | with_reducible assumption
    | with_reducible intro _
    | with_reducible apply lp_lostIn_8 hS hR hs hP
    | simp only [q177_0, q177_1, q177_2, q177_4, q177_5, q177_6, q177_10, q177_12, q177_13, q177_14, q177_16, q177_17, q177_20, q177_21, q177_23, q177_24, q177_28, q177_29, q177_32, q177_35, q177_37, q177_40, q177_41, q177_44, q177_46, q177_47, q177_48, q177_51, q177_53, q177_54, q177_57, q177_59, q177_60, q177_63, q177_65, q177_66, q177_69, q177_71, q177_72, q177_73, q177_76, q177_78, q177_79, q177_80, q177_83, q177_84, q177_87, q177_88, q177_90, q177_93, q177_96, q177_97, q177_99, q177_102, q177_103, q177_106, q177_107, q177_108, q177_109, q177_112, q177_115, q177_116, m_0 hS, m_K hS, mR_tFound hS, mK_tFound hS, mL_tFound hS, mR_tHour hS, mK_tHour hS, mL_tHour hS, mR_tMany hS, mK_tMany hS, mL_tMany hS, as_nil, as_i, as_r, Nat.reduceAdd, Nat.reduceLeDiff, z_eq0, z_eq1, z_or, z_em, Classical.not_not, not_false_eq_true, not_true_eq_false, true_and, and_true, false_and, and_false, and_self, true_implies, false_implies, implies_true, Option.toList_some, Option.toList_none, List.cons_append, List.nil_append, Nat.add_eq_zero_iff, a_nl_i, a_nl_r, a_nl_n, true_or, or_true, eq_self, ok_4, ok_5, ok_6, ok_7, ok_9, ok_10, ok_20, ok_21, ok_24, ok_30, ok_48, ok_50, ok_60, ok_80, ok_120, ok_180, ok_192, ok_200, ok_900, ok_1000, ok_84000]
  all_goals grind [ui_ap]
theorem lp_lossOf_4 (hS : m_S M K L R) (hR : mR M I) {a : Int32} (ha : 0 ≤ a ∧ a < 30) (hP : ∀ v, (0 ≤ v ∧ v ≤ 32) → P (some (.int v)) (n, t, K, L, I, R)) : ∀ i : Int32, i ≤ 4 → ∀ b, 0 ≤ i → (0 ≤ b ∧ b ≤ 8 * i) → a_at (d + 1) (a_xm a_m189) 4 [some (a_rf M), some (.int a), some (.int b), some (.int i)] [] (n, t, K, L, I, R) P := by
  refine up_ind 4 (fun i hi ih => ?_)
  intro b h0 hb
  have g1 := rg_length hR
  have g2 := rg_atShift hR
  rw [q189_4]
  repeat' first
    | with_reducible apply And.intro
    | with_reducible assumption
    | with_reducible intro _
    | with_reducible apply ih
    | with_reducible apply hP
    | with_reducible apply ct_lostIn hS hR
    | simp only [q189_0, q189_1, q189_2, q189_3, q189_5, q189_6, q189_9, q189_10, q189_11, q189_14, q189_15, q189_16, q189_19, q189_22, q189_23, q189_24, q189_25, q189_28, q189_29, q189_30, q189_31, q189_32, q189_33, q189_36, q189_39, q189_40, q189_41, q189_44, q189_47, q189_48, m_0 hS, m_K hS, mR_length hS, mK_length hS, mL_length hS, mR_atShift hS, mK_atShift hS, mL_atShift hS, sp_hasPlace hS, as_nil, as_i, as_r, Nat.reduceAdd, Nat.reduceLeDiff, z_eq0, z_eq1, z_or, z_em, Classical.not_not, not_false_eq_true, not_true_eq_false, true_and, and_true, false_and, and_false, and_self, true_implies, false_implies, implies_true, Option.toList_some, Option.toList_none, List.cons_append, List.nil_append, Nat.add_eq_zero_iff, a_nl_i, a_nl_r, a_nl_n, true_or, or_true, eq_self, ok_4, ok_5, ok_6, ok_7, ok_9, ok_10, ok_20, ok_21, ok_24, ok_30, ok_48, ok_50, ok_60, ok_80, ok_120, ok_180, ok_192, ok_200, ok_900, ok_1000, ok_84000]
  all_goals grind [ui_ap]
theorem ct_lossOf (hS : m_S M K L R) (hR : mR M I) {a : Int32} (ha : 0 ≤ a ∧ a < 30) (hP : ∀ v, (0 ≤ v ∧ v ≤ 32) → P (some (.int v)) (n, t, K, L, I, R)) : a_does (d + 2) 189 [a_rf M, .int a] (n, t, K, L, I, R) P := by
  rw [a_enter1 (M := a_m189) rfl (a_cat_rf (a_cat_int a_cat_nil)) (show 2 ≤ 4 by decide)]
  show a_at _ (a_xm a_m189) 0 [some (a_rf M), some (.int a), none, none] [] _ _
  repeat' first
    | with_reducible apply And.intro
    | with_reducible assumption
    | with_reducible intro _
    | with_reducible apply lp_lossOf_4 hS hR ha hP
    | simp only [q189_0, q189_1, q189_2, q189_3, q189_5, q189_6, q189_9, q189_10, q189_11, q189_14, q189_15, q189_16, q189_19, q189_22, q189_23, q189_24, q189_25, q189_28, q189_29, q189_30, q189_31, q189_32, q189_33, q189_36, q189_39, q189_40, q189_41, q189_44, q189_47, q189_48, m_0 hS, m_K hS, mR_length hS, mK_length hS, mL_length hS, mR_atShift hS, mK_atShift hS, mL_atShift hS, sp_hasPlace hS, as_nil, as_i, as_r, Nat.reduceAdd, Nat.reduceLeDiff, z_eq0, z_eq1, z_or, z_em, Classical.not_not, not_false_eq_true, not_true_eq_false, true_and, and_true, false_and, and_false, and_self, true_implies, false_implies, implies_true, Option.toList_some, Option.toList_none, List.cons_append, List.nil_append, Nat.add_eq_zero_iff, a_nl_i, a_nl_r, a_nl_n, true_or, or_true, eq_self, ok_4, ok_5, ok_6, ok_7, ok_9, ok_10, ok_20, ok_21, ok_24, ok_30, ok_48, ok_50, ok_60, ok_80, ok_120, ok_180, ok_192, ok_200, ok_900, ok_1000, ok_84000]
  all_goals grind [ui_ap]
theorem lp_freeHosts_18 (hS : m_S M K L R) (hR : mR M I) {a b s o : Int32} (ho : 0 ≤ o ∧ o < 30) (hC : ∀ y i w, a_at (d + 1) (a_xm a_m225) 6 [some (a_rf M), some (.int a), some (.int b), some (.int s), some (.int y), some (.int (o + 1)), some (.int i), w] [] (n, t, K, L, I, R) P) : ∀ i : Int32, i ≤ 4 → ∀ y w, 0 ≤ i → a_at (d + 1) (a_xm a_m225) 18 [some (a_rf M), some (.int a), some (.int b), some (.int s), some (.int y), some (.int o), some (.int i), w] [] (n, t, K, L, I, R) P := by
  refine up_ind 4 (fun i hi ih => ?_)
  intro y w h0
  have g1 := rg_length hR
  rw [q225_18]
  repeat' first
    | with_reducible apply And.intro
    | with_reducible assumption
    | with_reducible intro _
    | with_reducible apply ih
    | with_reducible apply hC
    | simp only [q225_0, q225_1, q225_3, q225_4, q225_8, q225_9, q225_12, q225_15, q225_16, q225_20, q225_21, q225_24, q225_26, q225_27, q225_30, q225_31, q225_33, q225_36, q225_39, q225_41, q225_42, q225_45, q225_46, q225_49, q225_51, q225_52, q225_54, q225_55, q225_56, q225_57, q225_59, q225_61, q225_63, q225_64, q225_67, q225_70, q225_72, q225_73, q225_76, q225_77, q225_80, q225_81, q225_84, q225_85, q225_87, q225_88, q225_90, q225_91, q225_92, q225_95, q225_96, q225_97, q225_99, q225_102, q225_105, q225_108, q225_111, q225_112, q225_115, q225_116, q225_117, q225_119, q225_120, q225_121, q225_122, m_0 hS, m_K hS, mR_length hS, mK_length hS, mL_length hS, mR_atShift hS, mK_atShift hS, mL_atShift hS, mR_standing hS, mK_standing hS, mL_standing hS, mR_hostsOf hS, mK_hostsOf hS, mL_hostsOf hS, sp_hasPlace hS, as_nil, as_i, as_r, Nat.reduceAdd, Nat.reduceLeDiff, z_eq0, z_eq1, z_or, z_em, Classical.not_not, not_false_eq_true, not_true_eq_false, true_and, and_true, false_and, and_false, and_self, true_implies, false_implies, implies_true, Option.toList_some, Option.toList_none, List.cons_append, List.nil_append, Nat.add_eq_zero_iff, a_nl_i, a_nl_r, a_nl_n, true_or, or_true, eq_self, ok_4, ok_5, ok_6, ok_7, ok_9, ok_10, ok_20, ok_21, ok_24, ok_30, ok_48, ok_50, ok_60, ok_80, ok_120, ok_180, ok_192, ok_200, ok_900, ok_1000, ok_84000]
  all_goals grind [ui_ap]
theorem lp_freeHosts_6 (hS : m_S M K L R) (hR : mR M I) {a b s : Int32} (hb : 0 ≤ b ∧ b ≤ 5) (hP : ∀ v, P (some (.int v)) (n, t, K, L, I, R)) : ∀ o : Int32, o ≤ 30 → ∀ y i w, 0 ≤ o → a_at (d + 1) (a_xm a_m225) 6 [some (a_rf M), some (.int a), some (.int b), some (.int s), some (.int y), some (.int o), i, w] [] (n, t, K, L, I, R) P := by
  refine up_ind 30 (fun o ho ih => ?_)
  intro y i w h0
  have g1 := rg_asks hR
  rw [q225_6]
  repeat' first
    | with_reducible apply And.intro
    | with_reducible assumption
    | with_reducible intro _
    | with_reducible apply ih
    | with_reducible apply hP
    | with_reducible apply lp_freeHosts_18 hS hR
    | simp only [q225_0, q225_1, q225_3, q225_4, q225_8, q225_9, q225_12, q225_15, q225_16, q225_20, q225_21, q225_24, q225_26, q225_27, q225_30, q225_31, q225_33, q225_36, q225_39, q225_41, q225_42, q225_45, q225_46, q225_49, q225_51, q225_52, q225_54, q225_55, q225_56, q225_57, q225_59, q225_61, q225_63, q225_64, q225_67, q225_70, q225_72, q225_73, q225_76, q225_77, q225_80, q225_81, q225_84, q225_85, q225_87, q225_88, q225_90, q225_91, q225_92, q225_95, q225_96, q225_97, q225_99, q225_102, q225_105, q225_108, q225_111, q225_112, q225_115, q225_116, q225_117, q225_119, q225_120, q225_121, q225_122, m_0 hS, m_K hS, mR_length hS, mK_length hS, mL_length hS, mR_atShift hS, mK_atShift hS, mL_atShift hS, mR_standing hS, mK_standing hS, mL_standing hS, mR_hostsOf hS, mK_hostsOf hS, mL_hostsOf hS, sp_hasPlace hS, as_nil, as_i, as_r, Nat.reduceAdd, Nat.reduceLeDiff, z_eq0, z_eq1, z_or, z_em, Classical.not_not, not_false_eq_true, not_true_eq_false, true_and, and_true, false_and, and_false, and_self, true_implies, false_implies, implies_true, Option.toList_some, Option.toList_none, List.cons_append, List.nil_append, Nat.add_eq_zero_iff, a_nl_i, a_nl_r, a_nl_n, true_or, or_true, eq_self, ok_4, ok_5, ok_6, ok_7, ok_9, ok_10, ok_20, ok_21, ok_24, ok_30, ok_48, ok_50, ok_60, ok_80, ok_120, ok_180, ok_192, ok_200, ok_900, ok_1000, ok_84000]
  all_goals grind [ui_ap]
theorem ct_freeHosts (hS : m_S M K L R) (hR : mR M I) {a b s : Int32} (hb : 0 ≤ b ∧ b ≤ 5) (hP : ∀ v, P (some (.int v)) (n, t, K, L, I, R)) : a_does (d + 2) 225 [a_rf M, .int a, .int b, .int s] (n, t, K, L, I, R) P := by
  rw [a_enter1 (M := a_m225) rfl (a_cat_rf (a_cat_int (a_cat_int (a_cat_int a_cat_nil)))) (show 4 ≤ 8 by decide)]
  show a_at _ (a_xm a_m225) 0 [some (a_rf M), some (.int a), some (.int b), some (.int s), none, none, none, none] [] _ _
  repeat' first
    | with_reducible apply And.intro
    | with_reducible assumption
    | with_reducible intro _
    | with_reducible apply lp_freeHosts_6 hS hR hb hP
    | simp only [q225_0, q225_1, q225_3, q225_4, q225_8, q225_9, q225_12, q225_15, q225_16, q225_20, q225_21, q225_24, q225_26, q225_27, q225_30, q225_31, q225_33, q225_36, q225_39, q225_41, q225_42, q225_45, q225_46, q225_49, q225_51, q225_52, q225_54, q225_55, q225_56, q225_57, q225_59, q225_61, q225_63, q225_64, q225_67, q225_70, q225_72, q225_73, q225_76, q225_77, q225_80, q225_81, q225_84, q225_85, q225_87, q225_88, q225_90, q225_91, q225_92, q225_95, q225_96, q225_97, q225_99, q225_102, q225_105, q225_108, q225_111, q225_112, q225_115, q225_116, q225_117, q225_119, q225_120, q225_121, q225_122, m_0 hS, m_K hS, mR_length hS, mK_length hS, mL_length hS, mR_atShift hS, mK_atShift hS, mL_atShift hS, mR_standing hS, mK_standing hS, mL_standing hS, mR_hostsOf hS, mK_hostsOf hS, mL_hostsOf hS, sp_hasPlace hS, as_nil, as_i, as_r, Nat.reduceAdd, Nat.reduceLeDiff, z_eq0, z_eq1, z_or, z_em, Classical.not_not, not_false_eq_true, not_true_eq_false, true_and, and_true, false_and, and_false, and_self, true_implies, false_implies, implies_true, Option.toList_some, Option.toList_none, List.cons_append, List.nil_append, Nat.add_eq_zero_iff, a_nl_i, a_nl_r, a_nl_n, true_or, or_true, eq_self, ok_4, ok_5, ok_6, ok_7, ok_9, ok_10, ok_20, ok_21, ok_24, ok_30, ok_48, ok_50, ok_60, ok_80, ok_120, ok_180, ok_192, ok_200, ok_900, ok_1000, ok_84000]
  all_goals grind [ui_ap]
theorem ct_isTooNear (hS : m_S M K L R) (hR : mR M I) {a f : Int32} (ha : 0 ≤ a ∧ a < 30) (hP : ∀ v, P (some (.int v)) (n, t, K, L, I, R)) : a_does (d + 2) 228 [a_rf M, .int a, .int f] (n, t, K, L, I, R) P := by
  have g1 := rg_tied hR a.toNatClampNeg
  rw [a_enter1 (M := a_m228) rfl (a_cat_rf (a_cat_int (a_cat_int a_cat_nil))) (show 3 ≤ 4 by decide)]
  show a_at _ (a_xm a_m228) 0 [some (a_rf M), some (.int a), some (.int f), none] [] _ _
  repeat' first
    | with_reducible apply And.intro
    | with_reducible assumption
    | with_reducible intro _
    | with_reducible apply hP
    | simp only [q228_0, q228_1, q228_4, q228_5, q228_6, q228_7, q228_10, q228_11, q228_12, q228_13, q228_16, q228_17, q228_18, q228_19, q228_20, q228_21, q228_24, q228_27, q228_28, q228_29, q228_32, q228_33, q228_34, q228_35, q228_38, q228_39, q228_40, q228_41, q228_42, q228_43, q228_44, q228_45, q228_46, q228_47, q228_50, q228_51, q228_52, q228_55, q228_56, q228_59, q228_60, m_0 hS, m_K hS, mR_kind hS, mK_kind hS, mL_kind hS, mR_xOf hS, mK_xOf hS, mL_xOf hS, mR_atShift hS, mK_atShift hS, mL_atShift hS, mR_length hS, mK_length hS, mL_length hS, mR_yOf hS, mK_yOf hS, mL_yOf hS, sp_hasPlace hS, as_nil, as_i, as_r, Nat.reduceAdd, Nat.reduceLeDiff, z_eq0, z_eq1, z_or, z_em, Classical.not_not, not_false_eq_true, not_true_eq_false, true_and, and_true, false_and, and_false, and_self, true_implies, false_implies, implies_true, Option.toList_some, Option.toList_none, List.cons_append, List.nil_append, Nat.add_eq_zero_iff, a_nl_i, a_nl_r, a_nl_n, true_or, or_true, eq_self, ok_4, ok_5, ok_6, ok_7, ok_9, ok_10, ok_20, ok_21, ok_24, ok_30, ok_48, ok_50, ok_60, ok_80, ok_120, ok_180, ok_192, ok_200, ok_900, ok_1000, ok_84000]
  all_goals grind [ui_ap]
theorem lp_isWithinShare_23 (hS : m_S M K L R) (hR : mR M I) {a f e : Int32} (ha : 0 ≤ a ∧ a < 30) (hP : ∀ v, P (some (.int v)) (n, t, K, L, I, R)) : ∀ o : Int32, o ≤ 30 → ∀ y l, 0 ≤ o → a_at (d + 1) (a_xm a_m239) 23 [some (a_rf M), some (.int a), some (.int f), some (.int e), some (.int y), some (.int o), l] [] (n, t, K, L, I, R) P := by
  refine up_ind 30 (fun o ho ih => ?_)
  intro y l h0
  have g1 := rg_asks hR
  rw [q239_23]
  repeat' first
    | with_reducible apply And.intro
    | with_reducible assumption
    | with_reducible intro _
    | with_reducible apply ih
    | with_reducible apply hP
    | simp only [q239_0, q239_1, q239_4, q239_5, q239_6, q239_7, q239_10, q239_11, q239_12, q239_13, q239_16, q239_17, q239_18, q239_20, q239_21, q239_25, q239_26, q239_29, q239_32, q239_34, q239_35, q239_38, q239_39, q239_41, q239_44, q239_47, q239_48, q239_51, q239_53, q239_54, q239_55, q239_58, q239_59, q239_62, q239_64, q239_65, q239_66, q239_69, q239_70, q239_71, q239_74, q239_75, q239_78, q239_80, q239_81, q239_82, q239_83, q239_86, q239_89, q239_90, q239_93, q239_95, q239_96, q239_97, q239_100, q239_102, q239_103, q239_104, q239_105, q239_106, q239_108, q239_110, q239_112, q239_113, q239_116, q239_118, q239_121, q239_122, q239_123, q239_126, q239_128, q239_129, q239_130, q239_131, q239_132, q239_133, q239_135, q239_138, q239_141, q239_143, q239_144, q239_147, q239_148, q239_151, q239_152, q239_153, q239_154, q239_155, q239_156, q239_157, q239_158, q239_160, q239_161, q239_164, q239_165, q239_168, q239_169, m_0 hS, m_K hS, mR_kind hS, mK_kind hS, mL_kind hS, mR_length hS, mK_length hS, mL_length hS, mR_land hS, mK_land hS, mL_land hS, mR_atShift hS, mK_atShift hS, mL_atShift hS, sp_hasPlace hS, sp_in, as_nil, as_i, as_r, Nat.reduceAdd, Nat.reduceLeDiff, z_eq0, z_eq1, z_or, z_em, Classical.not_not, not_false_eq_true, not_true_eq_false, true_and, and_true, false_and, and_false, and_self, true_implies, false_implies, implies_true, Option.toList_some, Option.toList_none, List.cons_append, List.nil_append, Nat.add_eq_zero_iff, a_nl_i, a_nl_r, a_nl_n, true_or, or_true, eq_self, ok_4, ok_5, ok_6, ok_7, ok_9, ok_10, ok_20, ok_21, ok_24, ok_30, ok_48, ok_50, ok_60, ok_80, ok_120, ok_180, ok_192, ok_200, ok_900, ok_1000, ok_84000]
  all_goals grind [ui_ap]
theorem ct_isWithinShare (hS : m_S M K L R) (hR : mR M I) {a f e : Int32} (ha : 0 ≤ a ∧ a < 30) (hP : ∀ v, P (some (.int v)) (n, t, K, L, I, R)) : a_does (d + 2) 239 [a_rf M, .int a, .int f, .int e] (n, t, K, L, I, R) P := by
  rw [a_enter1 (M := a_m239) rfl (a_cat_rf (a_cat_int (a_cat_int (a_cat_int a_cat_nil)))) (show 4 ≤ 7 by decide)]
  show a_at _ (a_xm a_m239) 0 [some (a_rf M), some (.int a), some (.int f), some (.int e), none, none, none] [] _ _
  repeat' first
    | with_reducible apply And.intro
    | with_reducible assumption
    | with_reducible intro _
    | with_reducible apply hP
    | with_reducible apply lp_isWithinShare_23 hS hR ha hP
    | simp only [q239_0, q239_1, q239_4, q239_5, q239_6, q239_7, q239_10, q239_11, q239_12, q239_13, q239_16, q239_17, q239_18, q239_20, q239_21, q239_25, q239_26, q239_29, q239_32, q239_34, q239_35, q239_38, q239_39, q239_41, q239_44, q239_47, q239_48, q239_51, q239_53, q239_54, q239_55, q239_58, q239_59, q239_62, q239_64, q239_65, q239_66, q239_69, q239_70, q239_71, q239_74, q239_75, q239_78, q239_80, q239_81, q239_82, q239_83, q239_86, q239_89, q239_90, q239_93, q239_95, q239_96, q239_97, q239_100, q239_102, q239_103, q239_104, q239_105, q239_106, q239_108, q239_110, q239_112, q239_113, q239_116, q239_118, q239_121, q239_122, q239_123, q239_126, q239_128, q239_129, q239_130, q239_131, q239_132, q239_133, q239_135, q239_138, q239_141, q239_143, q239_144, q239_147, q239_148, q239_151, q239_152, q239_153, q239_154, q239_155, q239_156, q239_157, q239_158, q239_160, q239_161, q239_164, q239_165, q239_168, q239_169, m_0 hS, m_K hS, mR_kind hS, mK_kind hS, mL_kind hS, mR_length hS, mK_length hS, mL_length hS, mR_land hS, mK_land hS, mL_land hS, mR_atShift hS, mK_atShift hS, mL_atShift hS, sp_hasPlace hS, sp_in, as_nil, as_i, as_r, Nat.reduceAdd, Nat.reduceLeDiff, z_eq0, z_eq1, z_or, z_em, Classical.not_not, not_false_eq_true, not_true_eq_false, true_and, and_true, false_and, and_false, and_self, true_implies, false_implies, implies_true, Option.toList_some, Option.toList_none, List.cons_append, List.nil_append, Nat.add_eq_zero_iff, a_nl_i, a_nl_r, a_nl_n, true_or, or_true, eq_self, ok_4, ok_5, ok_6, ok_7, ok_9, ok_10, ok_20, ok_21, ok_24, ok_30, ok_48, ok_50, ok_60, ok_80, ok_120, ok_180, ok_192, ok_200, ok_900, ok_1000, ok_84000]
  all_goals grind [ui_ap]
theorem lp_hadAt_7 (hS : m_S M K L R) (hR : mR M I) {b s k : Int32} (hP : ∀ v, P (some (.int v)) (n, t, K, L, I, R)) : ∀ e : Int32, e ≤ 84000 → ∀ y, 0 ≤ e → a_at d (a_xm a_m257) 7 [some (a_rf M), some (.int b), some (.int s), some (.int k), some (.int y), some (.int e)] [] (n, t, K, L, I, R) P := by
  refine up_ind 84000 (fun e he ih => ?_)
  intro y h0
  have g1 := rg_events hR
  rw [q257_7]
  repeat' first
    | with_reducible apply And.intro
    | with_reducible assumption
    | with_reducible intro _
    | with_reducible apply ih
    | with_reducible apply hP
    | simp only [q257_0, q257_2, q257_4, q257_5, q257_9, q257_10, q257_13, q257_16, q257_17, q257_20, q257_22, q257_23, q257_26, q257_27, q257_28, q257_29, q257_30, q257_33, q257_34, q257_37, q257_39, q257_40, q257_41, q257_44, q257_45, q257_48, q257_50, q257_51, q257_54, q257_56, q257_58, q257_61, q257_64, q257_66, m_0 hS, m_K hS, mR_eWhere hS, mK_eWhere hS, mL_eWhere hS, mR_eHour hS, mK_eHour hS, mL_eHour hS, mR_eAsk hS, mK_eAsk hS, mL_eAsk hS, as_nil, as_i, as_r, Nat.reduceAdd, Nat.reduceLeDiff, z_eq0, z_eq1, z_or, z_em, Classical.not_not, not_false_eq_true, not_true_eq_false, true_and, and_true, false_and, and_false, and_self, true_implies, false_implies, implies_true, Option.toList_some, Option.toList_none, List.cons_append, List.nil_append, Nat.add_eq_zero_iff, a_nl_i, a_nl_r, a_nl_n, true_or, or_true, eq_self, ok_4, ok_5, ok_6, ok_7, ok_9, ok_10, ok_20, ok_21, ok_24, ok_30, ok_48, ok_50, ok_60, ok_80, ok_120, ok_180, ok_192, ok_200, ok_900, ok_1000, ok_84000]
  all_goals grind [ui_ap]
theorem ct_hadAt (hS : m_S M K L R) (hR : mR M I) {b s k : Int32} (hP : ∀ v, P (some (.int v)) (n, t, K, L, I, R)) : a_does (d + 1) 257 [a_rf M, .int b, .int s, .int k] (n, t, K, L, I, R) P := by
  rw [a_enter1 (M := a_m257) rfl (a_cat_rf (a_cat_int (a_cat_int (a_cat_int a_cat_nil)))) (show 4 ≤ 6 by decide)]
  show a_at _ (a_xm a_m257) 0 [some (a_rf M), some (.int b), some (.int s), some (.int k), none, none] [] _ _
  repeat' first
    | with_reducible apply And.intro
    | with_reducible assumption
    | with_reducible intro _
    | with_reducible apply lp_hadAt_7 hS hR hP
    | simp only [q257_0, q257_2, q257_4, q257_5, q257_9, q257_10, q257_13, q257_16, q257_17, q257_20, q257_22, q257_23, q257_26, q257_27, q257_28, q257_29, q257_30, q257_33, q257_34, q257_37, q257_39, q257_40, q257_41, q257_44, q257_45, q257_48, q257_50, q257_51, q257_54, q257_56, q257_58, q257_61, q257_64, q257_66, m_0 hS, m_K hS, mR_eWhere hS, mK_eWhere hS, mL_eWhere hS, mR_eHour hS, mK_eHour hS, mL_eHour hS, mR_eAsk hS, mK_eAsk hS, mL_eAsk hS, as_nil, as_i, as_r, Nat.reduceAdd, Nat.reduceLeDiff, z_eq0, z_eq1, z_or, z_em, Classical.not_not, not_false_eq_true, not_true_eq_false, true_and, and_true, false_and, and_false, and_self, true_implies, false_implies, implies_true, Option.toList_some, Option.toList_none, List.cons_append, List.nil_append, Nat.add_eq_zero_iff, a_nl_i, a_nl_r, a_nl_n, true_or, or_true, eq_self, ok_4, ok_5, ok_6, ok_7, ok_9, ok_10, ok_20, ok_21, ok_24, ok_30, ok_48, ok_50, ok_60, ok_80, ok_120, ok_180, ok_192, ok_200, ok_900, ok_1000, ok_84000]
  all_goals grind [ui_ap]
theorem ct_goesAhead (hS : m_S M K L R) (hR : mR M I) {a b : Int32} (ha : 0 ≤ a ∧ a < 30) (hb : 0 ≤ b ∧ b < 30) (hP : ∀ v, P (some (.int v)) (n, t, K, L, I, R)) : a_does (d + 3) 237 [a_rf M, .int a, .int b] (n, t, K, L, I, R) P := by
  rw [a_enter1 (M := a_m237) rfl (a_cat_rf (a_cat_int (a_cat_int a_cat_nil))) (show 3 ≤ 5 by decide)]
  show a_at _ (a_xm a_m237) 0 [some (a_rf M), some (.int a), some (.int b), none, none] [] _ _
  repeat' first
    | with_reducible apply And.intro
    | with_reducible assumption
    | with_reducible intro _
    | with_reducible apply hP
    | with_reducible apply ct_markFor hS hR ha
    | with_reducible apply ct_markFor hS hR hb
    | simp only [q237_0, q237_1, q237_4, q237_5, q237_6, q237_7, q237_10, q237_11, q237_14, q237_15, q237_18, q237_19, q237_20, q237_21, q237_24, q237_25, q237_28, q237_29, q237_30, q237_31, q237_34, q237_35, q237_36, q237_37, q237_40, q237_41, q237_44, q237_45, q237_48, q237_49, q237_50, q237_51, q237_54, q237_55, q237_58, q237_59, q237_61, q237_62, q237_64, q237_67, q237_68, q237_70, q237_73, q237_74, q237_77, q237_78, q237_79, q237_80, q237_81, q237_84, q237_85, q237_86, q237_89, q237_92, q237_93, q237_94, q237_97, q237_98, q237_99, q237_102, q237_105, q237_106, q237_109, q237_110, q237_113, q237_114, q237_115, q237_118, q237_119, q237_122, q237_123, m_0 hS, m_K hS, mR_kind hS, mK_kind hS, mL_kind hS, as_nil, as_i, as_r, Nat.reduceAdd, Nat.reduceLeDiff, z_eq0, z_eq1, z_or, z_em, Classical.not_not, not_false_eq_true, not_true_eq_false, true_and, and_true, false_and, and_false, and_self, true_implies, false_implies, implies_true, Option.toList_some, Option.toList_none, List.cons_append, List.nil_append, Nat.add_eq_zero_iff, a_nl_i, a_nl_r, a_nl_n, true_or, or_true, eq_self, ok_4, ok_5, ok_6, ok_7, ok_9, ok_10, ok_20, ok_21, ok_24, ok_30, ok_48, ok_50, ok_60, ok_80, ok_120, ok_180, ok_192, ok_200, ok_900, ok_1000, ok_84000]
  all_goals grind [ui_ap]
end RP
end
section
/-! reading a text -/
section RT
variable {d n t M : Nat} {K L : Nat → Nat} {I I0 : Nat → Nat → Int32} {R : Nat → Nat → Nat} {P : Option Value → AH → Prop}
/-- what the reader sees -/
def hv (M : Nat) (J : Nat → Nat → Int32) : Int32 := if J M 48 ≤ J M 49 then -1 else if J M 46 = 0 then J (M + 27) (J M 49).toNatClampNeg else J (M + 28) (J M 47 + J M 49).toNatClampNeg
def fv (c : Int32) : Int32 := if c = 107 then 0 else if c = 103 then 1 else if c = 108 then 2 else if c = 110 then 3 else if c = 100 then 4 else if c = 109 then 5 else if c = 115 then 6 else if c = 98 then 7 else if c = 116 then 8 else -1
/-- while it reads, only 'at' and 'isBad' change -/
def rE (M : Nat) (I0 : Nat → Nat → Int32) : Prop := (0 ≤ I0 M 49 ∧ I0 M 49 ≤ 52) ∧ I0 M 48 ≤ 50 ∧ (0 ≤ I0 M 47 ∧ I0 M 47 ≤ 950)
def rT (M : Nat) (I0 J : Nat → Nat → Int32) : Prop := mR M J ∧ (∀ x j, ¬ (x = M ∧ (j = 49 ∨ j = 50)) → J x j = I0 x j) ∧ I0 M 49 ≤ J M 49 ∧ J M 49 ≤ 52
theorem rT_refl (h : mR M I) (hE : rE M I) : rT M I I := ⟨h, fun _ _ _ => rfl, Int32.le_refl _, hE.1.2⟩
theorem sT_at {J : Nat → Nat → Int32} (h : rT M I0 J) {v : Int32} (hv : J M 49 ≤ v ∧ v ≤ 52) : rT M I0 (a_ui J M 49 v) := by
  refine ⟨sR_at h.1, fun x j hx => ?_, ?_, ?_⟩
  · rw [ui_ap, if_neg (by omega)]; exact h.2.1 x j hx
  · rw [ui_ap, if_pos ⟨rfl, rfl⟩]; exact Int32.le_trans h.2.2.1 hv.1
  · rw [ui_ap, if_pos ⟨rfl, rfl⟩]; exact hv.2
theorem sT_isBad {J : Nat → Nat → Int32} (h : rT M I0 J) {v : Int32} : rT M I0 (a_ui J M 50 v) := by
  refine ⟨sR_isBad h.1, fun x j hx => ?_, ?_, ?_⟩
  · rw [ui_ap, if_neg (by omega)]; exact h.2.1 x j hx
  · rw [ui_ap, if_neg (by omega)]; exact h.2.2.1
  · rw [ui_ap, if_neg (by omega)]; exact h.2.2.2
theorem rT_end {J : Nat → Nat → Int32} (h : rT M I0 J) : J M 48 = I0 M 48 := h.2.1 _ _ (by omega)
theorem rT_base {J : Nat → Nat → Int32} (h : rT M I0 J) : J M 47 = I0 M 47 := h.2.1 _ _ (by omega)
theorem ct_here {J : Nat → Nat → Int32} (hS : m_S M K L R) (hE : rE M I0) (hT : rT M I0 J) (hP : P (some (.int (hv M J))) (n, t, K, L, J, R)) : a_does (d + 1) 198 [a_rf M] (n, t, K, L, J, R) P := by
  have e1 := rT_end hT
  have e2 := rT_base hT
  obtain ⟨⟨h1, h2⟩, h3, h4, h5⟩ := hE
  obtain ⟨-, -, h6, h7⟩ := hT
  rw [← e1] at h3
  rw [← e2] at h4 h5
  unfold hv at hP
  rw [a_enter1 (M := a_m198) rfl (a_cat_rf a_cat_nil) (show 1 ≤ 1 by decide)]
  show a_at _ (a_xm a_m198) 0 [some (a_rf M)] [] _ _
  simp only [q198_0, q198_1, q198_4, q198_5, q198_8, q198_11, q198_12, q198_15, q198_16, q198_19, q198_22, q198_23, q198_26, q198_27, q198_30, q198_31, q198_34, q198_35, q198_36, q198_39, q198_40, q198_43, q198_44, q198_47, q198_48, m_0 hS, m_K hS, mR_written hS, mK_written hS, mL_written hS, mR_tape hS, mK_tape hS, mL_tape hS, as_nil, as_i, as_r, Nat.reduceAdd, Nat.reduceLeDiff, z_eq0, z_eq1, z_or, z_em, Classical.not_not, not_false_eq_true, not_true_eq_false, true_and, and_true, false_and, and_false, and_self, true_implies, false_implies, implies_true, Option.toList_some, Option.toList_none, List.cons_append, List.nil_append, Nat.add_eq_zero_iff, a_nl_i, a_nl_r, a_nl_n, true_or, or_true, eq_self, ok_4, ok_5, ok_6, ok_7, ok_9, ok_10, ok_20, ok_21, ok_24, ok_30, ok_48, ok_50, ok_60, ok_80, ok_120, ok_180, ok_192, ok_200, ok_900, ok_1000, ok_84000]
  refine ⟨fun g1 => ?_, fun g1 => ?_⟩
  · refine ⟨fun g2 => ?_, fun g2 => ⟨by grind, ?_⟩⟩
    · refine ⟨by grind, ?_⟩
      rw [if_neg (by grind), if_pos g2] at hP
      exact hP
    · rw [if_neg (by grind), if_neg g2] at hP
      exact hP
  · rw [if_pos (by grind)] at hP
    exact hP
theorem ct_factOf {c : Int32} {h : AH} (hP : P (some (.int (fv c))) h) : a_does (d + 1) 199 [.int c] h P := by
  unfold fv at hP
  rw [a_enter1 (M := a_m199) rfl (a_cat_int a_cat_nil) (show 1 ≤ 1 by decide)]
  show a_at _ (a_xm a_m199) 0 [some (.int c)] [] _ _
  simp only [q199_0, q199_1, q199_92, q199_93, q199_94, q199_95, q199_96, q199_97, q199_98, q199_99, q199_100, q199_101, q199_102, q199_103, q199_104, q199_106, q199_107, q199_109, q199_110, q199_112, q199_113, q199_114, a_sw, ti_0, ti_1, ti_2, ti_3, ti_4, ti_5, ti_6, ti_7, ti_8, ti_9, ti_10, ti_11, ti_12, ti_13, ti_14, ti_15, ti_16, ti_17, ti_18, ti_19, ti_98, ti_99, ti_100, ti_101, ti_102, ti_103, ti_104, ti_105, ti_106, ti_107, ti_108, ti_109, ti_110, ti_111, ti_112, ti_113, ti_114, ti_115, ti_116]
  grind (splits := 40)
theorem fv_le (c : Int32) : -1 ≤ fv c ∧ fv c ≤ 8 := by unfold fv; grind
theorem fv_m : fv (-1) = -1 := by decide +kernel
theorem lp_readUnit_56 (hS : m_S M K L R) (hE : rE M I0) (hP : ∀ v J, rT M I0 J → I M 49 ≤ J M 49 → P (some (.int v)) (n, t, K, L, J, R)) {c : Int32} : ∀ k : Int32, k ≤ 3 → ∀ v J, 0 ≤ k → rT M I0 J → I M 49 ≤ J M 49 → a_at (d + 1) (a_xm a_m197) 56 [some (a_rf M), some (.int c), some (.int v), some (.int k)] [] (n, t, K, L, J, R) P := by
  refine up_ind 3 (fun k hk ih => ?_)
  intro v J h0 hT hJ
  have e1 := rT_end hT
  have e2 := hE.2.1
  rw [q197_56]
  repeat' first
    | with_reducible apply And.intro
    | with_reducible assumption
    | with_reducible intro _
    | with_reducible apply ih
    | with_reducible apply hP
    | with_reducible apply ct_here hS hE
    | with_reducible apply sT_at
    | with_reducible apply sT_isBad
    | simp only [q197_0, q197_1, q197_4, q197_5, q197_6, q197_9, q197_12, q197_13, q197_14, q197_17, q197_18, q197_19, q197_22, q197_23, q197_26, q197_27, q197_30, q197_31, q197_32, q197_33, q197_34, q197_36, q197_38, q197_41, q197_44, q197_45, q197_48, q197_49, q197_52, q197_53, q197_54, q197_55, q197_57, q197_58, q197_61, q197_62, q197_65, q197_67, q197_69, q197_72, q197_75, q197_77, q197_78, q197_79, q197_80, q197_83, q197_84, q197_86, q197_87, q197_88, q197_89, q197_90, q197_93, q197_94, q197_95, q197_98, q197_101, q197_104, q197_105, m_0 hS, m_K hS, mR_facts hS, mK_facts hS, mL_facts hS, sp_in, as_nil, as_i, as_r, Nat.reduceAdd, Nat.reduceLeDiff, z_eq0, z_eq1, z_or, z_em, Classical.not_not, not_false_eq_true, not_true_eq_false, true_and, and_true, false_and, and_false, and_self, true_implies, false_implies, implies_true, Option.toList_some, Option.toList_none, List.cons_append, List.nil_append, Nat.add_eq_zero_iff, a_nl_i, a_nl_r, a_nl_n, true_or, or_true, eq_self, ok_4, ok_5, ok_6, ok_7, ok_9, ok_10, ok_20, ok_21, ok_24, ok_30, ok_48, ok_50, ok_60, ok_80, ok_120, ok_180, ok_192, ok_200, ok_900, ok_1000, ok_84000]
  all_goals grind [ui_ap, hv, rT]
theorem ct_readUnit (hS : m_S M K L R) (hE : rE M I0) (hT : rT M I0 I) (hP : ∀ v J, rT M I0 J → I M 49 ≤ J M 49 → P (some (.int v)) (n, t, K, L, J, R)) : a_does (d + 2) 197 [a_rf M] (n, t, K, L, I, R) P := by
  have e1 := rT_end hT
  have e2 := hE.2.1
  have e3 := fv_le (hv M I)
  have e4 := fv_m
  rw [a_enter1 (M := a_m197) rfl (a_cat_rf a_cat_nil) (show 1 ≤ 4 by decide)]
  show a_at _ (a_xm a_m197) 0 [some (a_rf M), none, none, none] [] _ _
  repeat' first
    | with_reducible apply And.intro
    | with_reducible assumption
    | with_reducible intro _
    | with_reducible apply hP
    | with_reducible apply ct_here hS hE
    | with_reducible apply ct_factOf
    | with_reducible apply lp_readUnit_56 hS hE hP
    | with_reducible apply sT_at
    | with_reducible apply sT_isBad
    | simp only [q197_0, q197_1, q197_4, q197_5, q197_6, q197_9, q197_12, q197_13, q197_14, q197_17, q197_18, q197_19, q197_22, q197_23, q197_26, q197_27, q197_30, q197_31, q197_32, q197_33, q197_34, q197_36, q197_38, q197_41, q197_44, q197_45, q197_48, q197_49, q197_52, q197_53, q197_54, q197_55, q197_57, q197_58, q197_61, q197_62, q197_65, q197_67, q197_69, q197_72, q197_75, q197_77, q197_78, q197_79, q197_80, q197_83, q197_84, q197_86, q197_87, q197_88, q197_89, q197_90, q197_93, q197_94, q197_95, q197_98, q197_101, q197_104, q197_105, m_0 hS, m_K hS, mR_facts hS, mK_facts hS, mL_facts hS, sp_in, as_nil, as_i, as_r, Nat.reduceAdd, Nat.reduceLeDiff, z_eq0, z_eq1, z_or, z_em, Classical.not_not, not_false_eq_true, not_true_eq_false, true_and, and_true, false_and, and_false, and_self, true_implies, false_implies, implies_true, Option.toList_some, Option.toList_none, List.cons_append, List.nil_append, Nat.add_eq_zero_iff, a_nl_i, a_nl_r, a_nl_n, true_or, or_true, eq_self, ok_4, ok_5, ok_6, ok_7, ok_9, ok_10, ok_20, ok_21, ok_24, ok_30, ok_48, ok_50, ok_60, ok_80, ok_120, ok_180, ok_192, ok_200, ok_900, ok_1000, ok_84000]
  all_goals grind [ui_ap, hv, rT]
theorem lp_readSum_5 (hS : m_S M K L R) (hE : rE M I0) (hP : ∀ v J, rT M I0 J → I M 49 ≤ J M 49 → P (some (.int v)) (n, t, K, L, J, R)) : ∀ a : Int32, a ≤ 52 → ∀ v c w J, J M 49 = a → rT M I0 J → I M 49 ≤ J M 49 → a_at (d + 2) (a_xm a_m196) 5 [some (a_rf M), some (.int v), c, w] [] (n, t, K, L, J, R) P := by
  refine us_ind 52 (fun a ha ih => ?_)
  intro v c w J hA hT hJ
  have e1 := rT_end hT
  have e2 := hE.2.1
  rw [q196_5]
  repeat' first
    | with_reducible apply And.intro
    | with_reducible assumption
    | with_reducible intro _
    | with_reducible apply hP
    | with_reducible apply ct_here hS hE
    | with_reducible apply ct_readUnit hS hE
    | with_reducible apply ih _ ?_ ?_ _ _ _ _ rfl
    | with_reducible apply sT_at
    | simp only [q196_0, q196_1, q196_4, q196_6, q196_9, q196_12, q196_13, q196_16, q196_18, q196_21, q196_22, q196_25, q196_27, q196_30, q196_31, q196_34, q196_36, q196_39, q196_40, q196_43, q196_44, q196_45, q196_46, q196_49, q196_50, q196_51, q196_54, q196_55, q196_58, q196_59, q196_60, q196_62, q196_65, q196_66, q196_67, q196_68, q196_71, q196_72, q196_74, q196_77, q196_78, q196_79, q196_80, q196_83, q196_84, q196_85, q196_86, q196_87, q196_90, q196_91, m_0 hS, m_K hS, as_nil, as_i, as_r, Nat.reduceAdd, Nat.reduceLeDiff, z_eq0, z_eq1, z_or, z_em, Classical.not_not, not_false_eq_true, not_true_eq_false, true_and, and_true, false_and, and_false, and_self, true_implies, false_implies, implies_true, Option.toList_some, Option.toList_none, List.cons_append, List.nil_append, Nat.add_eq_zero_iff, a_nl_i, a_nl_r, a_nl_n, true_or, or_true, eq_self, ok_4, ok_5, ok_6, ok_7, ok_9, ok_10, ok_20, ok_21, ok_24, ok_30, ok_48, ok_50, ok_60, ok_80, ok_120, ok_180, ok_192, ok_200, ok_900, ok_1000, ok_84000]
  all_goals grind [ui_ap, hv, rT]
theorem ct_readSum (hS : m_S M K L R) (hE : rE M I0) (hT : rT M I0 I) (hP : ∀ v J, rT M I0 J → I M 49 ≤ J M 49 → P (some (.int v)) (n, t, K, L, J, R)) : a_does (d + 3) 196 [a_rf M] (n, t, K, L, I, R) P := by
  rw [a_enter1 (M := a_m196) rfl (a_cat_rf a_cat_nil) (show 1 ≤ 4 by decide)]
  show a_at _ (a_xm a_m196) 0 [some (a_rf M), none, none, none] [] _ _
  repeat' first
    | with_reducible apply And.intro
    | with_reducible assumption
    | with_reducible intro _
    | with_reducible apply ct_readUnit hS hE hT
    | with_reducible apply lp_readSum_5 hS hE hP _ ?_ _ _ _ _ rfl
    | simp only [q196_0, q196_1, q196_4, q196_6, q196_9, q196_12, q196_13, q196_16, q196_18, q196_21, q196_22, q196_25, q196_27, q196_30, q196_31, q196_34, q196_36, q196_39, q196_40, q196_43, q196_44, q196_45, q196_46, q196_49, q196_50, q196_51, q196_54, q196_55, q196_58, q196_59, q196_60, q196_62, q196_65, q196_66, q196_67, q196_68, q196_71, q196_72, q196_74, q196_77, q196_78, q196_79, q196_80, q196_83, q196_84, q196_85, q196_86, q196_87, q196_90, q196_91, m_0 hS, m_K hS, as_nil, as_i, as_r, Nat.reduceAdd, Nat.reduceLeDiff, z_eq0, z_eq1, z_or, z_em, Classical.not_not, not_false_eq_true, not_true_eq_false, true_and, and_true, false_and, and_false, and_self, true_implies, false_implies, implies_true, Option.toList_some, Option.toList_none, List.cons_append, List.nil_append, Nat.add_eq_zero_iff, a_nl_i, a_nl_r, a_nl_n, true_or, or_true, eq_self, ok_4, ok_5, ok_6, ok_7, ok_9, ok_10, ok_20, ok_21, ok_24, ok_30, ok_48, ok_50, ok_60, ok_80, ok_120, ok_180, ok_192, ok_200, ok_900, ok_1000, ok_84000]
  all_goals grind [ui_ap, rT]
theorem ct_readTest (hS : m_S M K L R) (hE : rE M I0) (hT : rT M I0 I) (hP : ∀ v J, rT M I0 J → (J M 50 = 0 → I M 49 < J M 49) → (v = 0 ∨ v = 1) → P (some (.int v)) (n, t, K, L, J, R)) : a_does (d + 4) 203 [a_rf M] (n, t, K, L, I, R) P := by
  have e2 := hE.2.1
  rw [a_enter1 (M := a_m203) rfl (a_cat_rf a_cat_nil) (show 1 ≤ 4 by decide)]
  show a_at _ (a_xm a_m203) 0 [some (a_rf M), none, none, none] [] _ _
  repeat' first
    | with_reducible apply And.intro
    | with_reducible assumption
    | with_reducible intro _
    | with_reducible apply hP
    | with_reducible apply ct_here hS hE
    | with_reducible apply ct_readSum hS hE
    | with_reducible apply sT_at
    | with_reducible apply sT_isBad
    | simp only [q203_0, q203_1, q203_4, q203_5, q203_6, q203_9, q203_10, q203_11, q203_14, q203_17, q203_18, q203_20, q203_23, q203_24, q203_26, q203_29, q203_30, q203_32, q203_35, q203_36, q203_37, q203_40, q203_41, q203_42, q203_43, q203_44, q203_47, q203_48, q203_49, q203_52, q203_53, q203_56, q203_57, q203_58, q203_60, q203_63, q203_64, q203_65, q203_68, q203_69, q203_72, q203_73, q203_76, q203_77, q203_79, q203_82, q203_83, q203_84, q203_87, q203_88, q203_91, q203_92, q203_95, q203_96, q203_97, q203_100, q203_101, q203_104, q203_105, m_0 hS, m_K hS, as_nil, as_i, as_r, Nat.reduceAdd, Nat.reduceLeDiff, z_eq0, z_eq1, z_or, z_em, Classical.not_not, not_false_eq_true, not_true_eq_false, true_and, and_true, false_and, and_false, and_self, true_implies, false_implies, implies_true, Option.toList_some, Option.toList_none, List.cons_append, List.nil_append, Nat.add_eq_zero_iff, a_nl_i, a_nl_r, a_nl_n, true_or, or_true, eq_self, ok_4, ok_5, ok_6, ok_7, ok_9, ok_10, ok_20, ok_21, ok_24, ok_30, ok_48, ok_50, ok_60, ok_80, ok_120, ok_180, ok_192, ok_200, ok_900, ok_1000, ok_84000]
  all_goals grind [ui_ap, hv, rT]
/-- how many of the signs join two -/
def bci (f : Nat → Int32) : Nat → Int32
  | 0 => 0
  | k + 1 => bci f k + (if f k = 33 ∨ f k = 40 then 0 else 1)
theorem cl_up {s : Int32} (h0 : 0 ≤ s) (h1 : s < 100000) : (s + 1).toNatClampNeg = s.toNatClampNeg + 1 := by
  have h2 := Int32.le_iff_toInt_le.mp h0
  have h3 := Int32.lt_iff_toInt_lt.mp h1
  have h4 : (s + 1).toInt = s.toInt + 1 := by rw [Int32.toInt_add]; simp [Int.bmod_def] at h2 h3 ⊢; omega
  show (s + 1).toInt.toNat = s.toInt.toNat + 1
  simp at h2
  omega
theorem cl_dn {s : Int32} (h0 : 0 < s) (h1 : s < 100000) : s.toNatClampNeg = (s - 1).toNatClampNeg + 1 := by
  have := cl_up (s := s - 1) (by grind) (by grind)
  rw [← this]
  congr 1
  grind
theorem bci_push {f : Nat → Int32} {s : Int32} (h0 : 0 ≤ s) (h1 : s < 100000) : bci f (s + 1).toNatClampNeg = bci f s.toNatClampNeg + (if f s.toNatClampNeg = 33 ∨ f s.toNatClampNeg = 40 then 0 else 1) := by
  rw [cl_up h0 h1]; rfl
theorem bci_pop {f : Nat → Int32} {s : Int32} (h0 : 0 < s) (h1 : s < 100000) : bci f s.toNatClampNeg = bci f (s - 1).toNatClampNeg + (if f (s - 1).toNatClampNeg = 33 ∨ f (s - 1).toNatClampNeg = 40 then 0 else 1) := by
  rw [cl_dn h0 h1]; rfl
theorem bci_rng {f : Nat → Int32} {s : Int32} (h0 : 0 ≤ s) (h1 : s ≤ 100) : 0 ≤ bci f s.toNatClampNeg ∧ bci f s.toNatClampNeg ≤ s := by
  have : ∀ s : Int32, s ≤ 100 → 0 ≤ s → 0 ≤ bci f s.toNatClampNeg ∧ bci f s.toNatClampNeg ≤ s := by
    intro s
    refine lt_ind (Q := fun s => s ≤ 100 → 0 ≤ s → 0 ≤ bci f s.toNatClampNeg ∧ bci f s.toNatClampNeg ≤ s) (fun s ih => ?_) s
    intro h1 h0
    by_cases hz : s = 0
    · subst hz; exact ⟨Int32.le_refl _, Int32.le_refl _⟩
    · have h2 := ih (s - 1) (by grind) (by grind) (by grind) (by grind)
      rw [bci_pop (by grind) (by grind)]
      split <;> grind
  exact this s h1 h0
theorem bci_le {J : Nat → Nat → Int32} {A k' : Nat} {v : Int32} : ∀ {k : Nat}, k ≤ k' → bci (a_ui J A k' v A) k = bci (J A) k := by
  intro k
  induction k with
  | zero => intro _; rfl
  | succ k ih =>
    intro h
    have e : a_ui J A k' v A k = J A k := by rw [ui_ap, if_neg (by omega)]
    simp only [bci]
    rw [ih (by omega), e]
theorem bci_ne {J : Nat → Nat → Int32} {A B k' : Nat} {v : Int32} (h : ¬ A = B) {k : Nat} : bci (a_ui J B k' v A) k = bci (J A) k := by
  have : a_ui J B k' v A = J A := by funext j; rw [ui_ap, if_neg (by omega)]
  rw [this]
end RT
end
section
/-! rules, and what fits -/
section RQ
variable {d n t M : Nat} {K L : Nat → Nat} {I I0 : Nat → Nat → Int32} {R : Nat → Nat → Nat} {P : Option Value → AH → Prop}
theorem ti_div {x k : Int32} (h : 0 ≤ x) (hk : 0 < k) : (x / k).toInt = x.toInt / k.toInt := by
  have h2 := Int32.le_iff_toInt_le.mp h
  have h3 := Int32.lt_iff_toInt_lt.mp hk
  simp at h2 h3
  have h4 := Int32.toInt_lt x
  have h5 : x.toInt / k.toInt ≤ x.toInt := Int.ediv_le_self _ h2
  have h6 : 0 ≤ x.toInt / k.toInt := Int.ediv_nonneg h2 (by omega)
  rw [Int32.toInt_div, Int.tdiv_eq_ediv_of_nonneg h2]
  simp [Int.bmod_def]
  omega
theorem div_rng {x k : Int32} (h : 0 ≤ x) (hk : 0 < k) : 0 ≤ x / k ∧ x / k ≤ x := by
  have h2 := Int32.le_iff_toInt_le.mp h
  have h3 := Int32.lt_iff_toInt_lt.mp hk
  simp at h2 h3
  rw [Int32.le_iff_toInt_le, Int32.le_iff_toInt_le, ti_div h hk]
  exact ⟨by simpa using Int.ediv_nonneg h2 (by omega), Int.ediv_le_self _ h2⟩
theorem div_half {b : Int32} (h : 0 < b) : 0 ≤ b / 2 ∧ b / 2 < b := by
  have h1 : (0 : Int32) ≤ b := by grind
  refine ⟨(div_rng h1 (by decide)).1, ?_⟩
  have h3 := Int32.lt_iff_toInt_lt.mp h
  simp at h3
  rw [Int32.lt_iff_toInt_lt, ti_div h1 (by decide)]
  show b.toInt / 2 < b.toInt
  omega
theorem lp_ones_4 {s : Int32} {h : AH} (hP : ∀ v, P (some (.int v)) h) : ∀ b c : Int32, a_at d (a_xm a_m226) 4 [some (.int s), some (.int c), some (.int b)] [] h P := by
  refine lt_ind (fun b ih => ?_)
  intro c
  have g := fun h => div_half (b := b) h
  rw [q226_4]
  repeat' first
    | with_reducible apply And.intro
    | with_reducible assumption
    | with_reducible intro _
    | with_reducible apply ih
    | with_reducible apply hP
    | simp only [q226_0, q226_1, q226_2, q226_3, q226_5, q226_8, q226_9, q226_10, q226_11, q226_12, q226_13, q226_14, q226_15, q226_16, q226_17, q226_18, q226_21, q226_22, as_nil, as_i, as_r, Nat.reduceAdd, Nat.reduceLeDiff, z_eq0, z_eq1, z_or, z_em, Classical.not_not, not_false_eq_true, not_true_eq_false, true_and, and_true, false_and, and_false, and_self, true_implies, false_implies, implies_true, Option.toList_some, Option.toList_none, List.cons_append, List.nil_append, Nat.add_eq_zero_iff, a_nl_i, a_nl_r, a_nl_n, true_or, or_true, eq_self, ok_4, ok_5, ok_6, ok_7, ok_9, ok_10, ok_20, ok_21, ok_24, ok_30, ok_48, ok_50, ok_60, ok_80, ok_120, ok_180, ok_192, ok_200, ok_900, ok_1000, ok_84000]
  all_goals grind [ui_ap]
theorem ct_ones {s : Int32} {h : AH} (hP : ∀ v, P (some (.int v)) h) : a_does (d + 1) 226 [.int s] h P := by
  rw [a_enter1 (M := a_m226) rfl (a_cat_int a_cat_nil) (show 1 ≤ 3 by decide)]
  show a_at _ (a_xm a_m226) 0 [some (.int s), none, none] [] _ _
  repeat' first
    | with_reducible apply And.intro
    | with_reducible assumption
    | with_reducible intro _
    | with_reducible apply lp_ones_4 hP
    | simp only [q226_0, q226_1, q226_2, q226_3, q226_5, q226_8, q226_9, q226_10, q226_11, q226_12, q226_13, q226_14, q226_15, q226_16, q226_17, q226_18, q226_21, q226_22, as_nil, as_i, as_r, Nat.reduceAdd, Nat.reduceLeDiff, z_eq0, z_eq1, z_or, z_em, Classical.not_not, not_false_eq_true, not_true_eq_false, true_and, and_true, false_and, and_false, and_self, true_implies, false_implies, implies_true, Option.toList_some, Option.toList_none, List.cons_append, List.nil_append, Nat.add_eq_zero_iff, a_nl_i, a_nl_r, a_nl_n, true_or, or_true, eq_self, ok_4, ok_5, ok_6, ok_7, ok_9, ok_10, ok_20, ok_21, ok_24, ok_30, ok_48, ok_50, ok_60, ok_80, ok_120, ok_180, ok_192, ok_200, ok_900, ok_1000, ok_84000]
  all_goals grind [ui_ap]
theorem rT_fun {J : Nat → Nat → Int32} (h : rT M I0 J) {A : Nat} (hA : ¬ A = M) : J A = I0 A := by
  funext j
  exact h.2.1 A j (by omega)
theorem rT_cell {J : Nat → Nat → Int32} (h : rT M I0 J) {j : Nat} (hA : ¬ j = 49 ∧ ¬ j = 50) : J M j = I0 M j := h.2.1 _ _ (by omega)
theorem mC_T {J : Nat → Nat → Int32} (h : mC M I0 I) (h2 : rT M I J) : mC M I0 J := ⟨h2.1, fun x j hx => (h2.2.1 x j (by unfold sC at hx; omega)).trans (h.2 x j hx)⟩
/-- between two steps of a rule -/
def rW (M : Nat) (e : Int32) (I0 J : Nat → Nat → Int32) (w : Int32) : Prop := mC M I0 J ∧ (0 ≤ J M 49 ∧ J M 49 ≤ 52) ∧ J M 48 = e ∧ (0 ≤ J M 47 ∧ J M 47 ≤ 950) ∧ (0 ≤ J M 56 ∧ J M 56 ≤ J M 49) ∧ J M 54 = bci (J (M + 34)) (J M 56).toNatClampNeg + w
theorem rW_i {J : Nat → Nat → Int32} {e w : Int32} (h1 : mC M I0 J) (h2 : 0 ≤ J M 49 ∧ J M 49 ≤ 52) (h3 : J M 48 = e) (h4 : 0 ≤ J M 47 ∧ J M 47 ≤ 950) (h5 : 0 ≤ J M 56 ∧ J M 56 ≤ J M 49) (h6 : J M 54 = bci (J (M + 34)) (J M 56).toNatClampNeg + w) : rW M e I0 J w := ⟨h1, h2, h3, h4, h5, h6⟩
theorem lp_partEnds_0 (hS : m_S M K L R) {e a b : Int32} (hP : ∀ J, rW M e I0 J 1 → J M 49 = a → J M 50 = b → P none (n, t, K, L, J, R)) : ∀ s : Int32, 0 ≤ s → ∀ J, J M 56 = s → rW M e I0 J 1 → J M 49 = a → J M 50 = b → a_at (d + 1) (a_xm a_m204) 0 [some (a_rf M)] [] (n, t, K, L, J, R) P := by
  refine dn_ind 0 (fun s hs ih => ?_)
  intro J hs1 hW hA hB
  obtain ⟨hC, hat, hen, hba, hsm, hvm⟩ := id hW
  have b1 : 0 < J M 56 → _ := fun h => bci_pop (f := J (M + 34)) h (by grind)
  have b2 := bci_rng (f := J (M + 34)) hsm.1 (by grind)
  rw [q204_0]
  repeat' first
    | with_reducible apply And.intro
    | with_reducible assumption
    | with_reducible intro _
    | with_reducible apply ih ?_ _
    | with_reducible apply hP
    | with_reducible apply rW_i
    | with_reducible apply sC_facts
    | with_reducible apply sC_values
    | with_reducible apply sC_signs
    | with_reducible apply sC_isTold
    | with_reducible apply sC_base
    | with_reducible apply sC_end
    | with_reducible apply sC_at
    | with_reducible apply sC_isBad
    | with_reducible apply sC_deep
    | with_reducible apply sC_valueMany
    | with_reducible apply sC_signMany
    | simp only [q204_1, q204_4, q204_6, q204_9, q204_10, q204_13, q204_14, q204_17, q204_18, q204_19, q204_20, q204_23, q204_24, q204_27, q204_28, q204_29, q204_30, q204_33, q204_34, q204_37, q204_38, q204_39, q204_40, q204_41, q204_44, q204_45, q204_46, q204_49, q204_50, q204_51, q204_54, q204_55, q204_56, q204_59, q204_62, m_0 hS, m_K hS, mR_values hS, mK_values hS, mL_values hS, sp_topSign hS, as_nil, as_i, as_r, Nat.reduceAdd, Nat.reduceLeDiff, z_eq0, z_eq1, z_or, z_em, Classical.not_not, not_false_eq_true, not_true_eq_false, true_and, and_true, false_and, and_false, and_self, true_implies, false_implies, implies_true, Option.toList_some, Option.toList_none, List.cons_append, List.nil_append, Nat.add_eq_zero_iff, a_nl_i, a_nl_r, a_nl_n, true_or, or_true, eq_self, ok_4, ok_5, ok_6, ok_7, ok_9, ok_10, ok_20, ok_21, ok_24, ok_30, ok_48, ok_50, ok_60, ok_80, ok_120, ok_180, ok_192, ok_200, ok_900, ok_1000, ok_84000]
  all_goals grind [ui_ap, bci_ne]
theorem ct_partEnds (hS : m_S M K L R) {e : Int32} {J : Nat → Nat → Int32} (hW : rW M e I0 J 1) (hP : ∀ J', rW M e I0 J' 1 → J' M 49 = J M 49 → J' M 50 = J M 50 → P none (n, t, K, L, J', R)) : a_does (d + 2) 204 [a_rf M] (n, t, K, L, J, R) P := by
  rw [a_enter1 (M := a_m204) rfl (a_cat_rf a_cat_nil) (show 1 ≤ 1 by decide)]
  show a_at _ (a_xm a_m204) 0 [some (a_rf M)] [] _ _
  exact lp_partEnds_0 hS hP _ hW.2.2.2.2.1.1 J rfl hW rfl rfl
theorem lp_join_0 (hS : m_S M K L R) {e a b g : Int32} (hg : ¬ g = 0 ∧ ¬ g = 33 ∧ ¬ g = 40) (hP : ∀ J, rW M e I0 J 1 → J M 49 = a → J M 50 = b → P none (n, t, K, L, J, R)) : ∀ s : Int32, 0 ≤ s → ∀ J x y, J M 56 = s → rW M e I0 J 1 → J M 49 = a → J M 50 = b → a_at (d + 1) (a_xm a_m206) 0 [some (a_rf M), some (.int g), x, y] [] (n, t, K, L, J, R) P := by
  refine dn_ind 0 (fun s hs ih => ?_)
  intro J x y hs1 hW hA hB
  obtain ⟨hC, hat, hen, hba, hsm, hvm⟩ := id hW
  have b1 : 0 < J M 56 → _ := fun h => bci_pop (f := J (M + 34)) h (by grind)
  have b2 := bci_rng (f := J (M + 34)) hsm.1 (by grind)
  have b3 : 0 < J M 56 → _ := fun h => bci_rng (f := J (M + 34)) (s := J M 56 - 1) (by grind) (by grind)
  have h107 : 0 < J M 56 → J (M + 34) (J M 56 - 1).toNatClampNeg = g → ∀ v x y : Int32, a_at (d + 1) (a_xm a_m206) 107 [some (a_rf M), some (.int g), some (.int x), some (.int y)] [.int v, .int (J M 54 - 1 - 1), a_rf (M + 33)] (n, t, K, L, (a_ui J M 54 (J M 54 - 1)), R) P := by
    intro q1 q2 v x y
    repeat' first
      | with_reducible apply And.intro
      | with_reducible assumption
      | with_reducible intro _
      | with_reducible apply ih ?_ _
      | with_reducible apply rW_i
      | with_reducible apply sC_facts
      | with_reducible apply sC_values
      | with_reducible apply sC_signs
      | with_reducible apply sC_isTold
      | with_reducible apply sC_base
      | with_reducible apply sC_end
      | with_reducible apply sC_at
      | with_reducible apply sC_isBad
      | with_reducible apply sC_deep
      | with_reducible apply sC_valueMany
      | with_reducible apply sC_signMany
      | simp only [q206_107, q206_108, q206_109, q206_110, q206_113, q206_114, q206_115, q206_118, m_0 hS, m_K hS, as_nil, as_i, as_r, Nat.reduceAdd, Nat.reduceLeDiff, z_eq0, z_eq1, z_or, z_em, Classical.not_not, not_false_eq_true, not_true_eq_false, true_and, and_true, false_and, and_false, and_self, true_implies, false_implies, implies_true, Option.toList_some, Option.toList_none, List.cons_append, List.nil_append, Nat.add_eq_zero_iff, a_nl_i, a_nl_r, a_nl_n, true_or, or_true, eq_self, ok_4, ok_5, ok_6, ok_7, ok_9, ok_10, ok_20, ok_21, ok_24, ok_30, ok_48, ok_50, ok_60, ok_80, ok_120, ok_180, ok_192, ok_200, ok_900, ok_1000, ok_84000, mK_values hS, mL_values hS]
    all_goals grind [ui_ap, bci_ne]
  rw [q206_0]
  repeat' first
    | with_reducible apply And.intro
    | with_reducible assumption
    | with_reducible intro _
    | with_reducible apply h107
    | with_reducible apply hP
    | simp only [q206_1, q206_4, q206_5, q206_8, q206_9, q206_10, q206_13, q206_14, q206_15, q206_18, q206_19, q206_22, q206_23, q206_26, q206_27, q206_28, q206_29, q206_30, q206_31, q206_34, q206_35, q206_38, q206_39, q206_40, q206_41, q206_44, q206_45, q206_48, q206_49, q206_50, q206_51, q206_53, q206_56, q206_57, q206_60, q206_61, q206_64, q206_65, q206_68, q206_69, q206_72, q206_73, q206_75, q206_78, q206_79, q206_82, q206_83, q206_86, q206_87, q206_90, q206_91, q206_94, q206_95, q206_98, q206_99, q206_102, q206_103, q206_106, q206_121, m_0 hS, m_K hS, mR_values hS, mK_values hS, mL_values hS, sp_topSign hS, as_nil, as_i, as_r, Nat.reduceAdd, Nat.reduceLeDiff, z_eq0, z_eq1, z_or, z_em, Classical.not_not, not_false_eq_true, not_true_eq_false, true_and, and_true, false_and, and_false, and_self, true_implies, false_implies, implies_true, Option.toList_some, Option.toList_none, List.cons_append, List.nil_append, Nat.add_eq_zero_iff, a_nl_i, a_nl_r, a_nl_n, true_or, or_true, eq_self, ok_4, ok_5, ok_6, ok_7, ok_9, ok_10, ok_20, ok_21, ok_24, ok_30, ok_48, ok_50, ok_60, ok_80, ok_120, ok_180, ok_192, ok_200, ok_900, ok_1000, ok_84000, ui_ap, ne_0M, ne_M0, ne_MM]
  all_goals grind [ui_ap]
theorem ct_join (hS : m_S M K L R) {e g : Int32} {J : Nat → Nat → Int32} (hg : ¬ g = 0 ∧ ¬ g = 33 ∧ ¬ g = 40) (hW : rW M e I0 J 1) (hP : ∀ J', rW M e I0 J' 1 → J' M 49 = J M 49 → J' M 50 = J M 50 → P none (n, t, K, L, J', R)) : a_does (d + 2) 206 [a_rf M, .int g] (n, t, K, L, J, R) P := by
  rw [a_enter1 (M := a_m206) rfl (a_cat_rf (a_cat_int a_cat_nil)) (show 2 ≤ 4 by decide)]
  show a_at _ (a_xm a_m206) 0 [some (a_rf M), some (.int g), none, none] [] _ _
  exact lp_join_0 hS hg hP _ hW.2.2.2.2.1.1 J _ _ rfl hW rfl rfl
theorem lp_readRule_332 (hS : m_S M K L R) {e : Int32} {J : Nat → Nat → Int32} {w c : Option Value} (hC : mC M I0 J) (he : J M 48 = e) (hW : J M 50 = 0 → rW M e I0 J 1) (hP : ∀ v J, mC M I0 J → J M 48 = e → (v = 0 ∨ v = 1) → P (some (.int v)) (n, t, K, L, J, R)) : a_at (d + 2) (a_xm a_m202) 332 [some (a_rf M), w, c] [] (n, t, K, L, J, R) P := by
  have k38 : ¬ (38 : Int32) = 0 ∧ ¬ (38 : Int32) = 33 ∧ ¬ (38 : Int32) = 40 := by decide
  have k124 : ¬ (124 : Int32) = 0 ∧ ¬ (124 : Int32) = 33 ∧ ¬ (124 : Int32) = 40 := by decide
  have k47 : ¬ (47 : Int32) = 0 ∧ ¬ (47 : Int32) = 33 ∧ ¬ (47 : Int32) = 40 := by decide
  simp only [q202_332, q202_333, q202_336, m_0 hS, m_K hS, as_nil, as_i, as_r, Nat.reduceAdd, Nat.reduceLeDiff, z_eq0, z_eq1, z_or, z_em, Classical.not_not, not_false_eq_true, not_true_eq_false, true_and, and_true, false_and, and_false, and_self, true_implies, false_implies, implies_true, Option.toList_some, Option.toList_none, List.cons_append, List.nil_append, Nat.add_eq_zero_iff, a_nl_i, a_nl_r, a_nl_n, true_or, or_true, eq_self, ok_4, ok_5, ok_6, ok_7, ok_9, ok_10, ok_20, ok_21, ok_24, ok_30, ok_48, ok_50, ok_60, ok_80, ok_120, ok_180, ok_192, ok_200, ok_900, ok_1000, ok_84000]
  refine ⟨fun h => ?_, fun h => ?_⟩
  · simp only [q202_373, q202_374, q202_377, q202_380, q202_381, q202_384, q202_385, q202_386, q202_389, q202_390, q202_393, q202_394, m_0 hS, m_K hS, mR_values hS, mK_values hS, mL_values hS, as_nil, as_i, as_r, Nat.reduceAdd, Nat.reduceLeDiff, z_eq0, z_eq1, z_or, z_em, Classical.not_not, not_false_eq_true, not_true_eq_false, true_and, and_true, false_and, and_false, and_self, true_implies, false_implies, implies_true, Option.toList_some, Option.toList_none, List.cons_append, List.nil_append, Nat.add_eq_zero_iff, a_nl_i, a_nl_r, a_nl_n, true_or, or_true, eq_self, ok_4, ok_5, ok_6, ok_7, ok_9, ok_10, ok_20, ok_21, ok_24, ok_30, ok_48, ok_50, ok_60, ok_80, ok_120, ok_180, ok_192, ok_200, ok_900, ok_1000, ok_84000]
    grind
  · simp only [q202_339, q202_340, q202_342, q202_345, m_0 hS, m_K hS, as_nil, as_i, as_r, Nat.reduceAdd, Nat.reduceLeDiff, z_eq0, z_eq1, z_or, z_em, Classical.not_not, not_false_eq_true, not_true_eq_false, true_and, and_true, false_and, and_false, and_self, true_implies, false_implies, implies_true, Option.toList_some, Option.toList_none, List.cons_append, List.nil_append, Nat.add_eq_zero_iff, a_nl_i, a_nl_r, a_nl_n, true_or, or_true, eq_self, ok_4, ok_5, ok_6, ok_7, ok_9, ok_10, ok_20, ok_21, ok_24, ok_30, ok_48, ok_50, ok_60, ok_80, ok_120, ok_180, ok_192, ok_200, ok_900, ok_1000, ok_84000]
    refine ct_join hS k38 (hW h) (fun J1 w1 a1 i1 => ?_)
    simp only [q202_345, q202_346, q202_348, q202_351, m_0 hS, m_K hS, as_nil, as_i, as_r, Nat.reduceAdd, Nat.reduceLeDiff, z_eq0, z_eq1, z_or, z_em, Classical.not_not, not_false_eq_true, not_true_eq_false, true_and, and_true, false_and, and_false, and_self, true_implies, false_implies, implies_true, Option.toList_some, Option.toList_none, List.cons_append, List.nil_append, Nat.add_eq_zero_iff, a_nl_i, a_nl_r, a_nl_n, true_or, or_true, eq_self, ok_4, ok_5, ok_6, ok_7, ok_9, ok_10, ok_20, ok_21, ok_24, ok_30, ok_48, ok_50, ok_60, ok_80, ok_120, ok_180, ok_192, ok_200, ok_900, ok_1000, ok_84000]
    refine ct_join hS k124 w1 (fun J2 w2 a2 i2 => ?_)
    simp only [q202_351, q202_352, q202_354, q202_357, m_0 hS, m_K hS, as_nil, as_i, as_r, Nat.reduceAdd, Nat.reduceLeDiff, z_eq0, z_eq1, z_or, z_em, Classical.not_not, not_false_eq_true, not_true_eq_false, true_and, and_true, false_and, and_false, and_self, true_implies, false_implies, implies_true, Option.toList_some, Option.toList_none, List.cons_append, List.nil_append, Nat.add_eq_zero_iff, a_nl_i, a_nl_r, a_nl_n, true_or, or_true, eq_self, ok_4, ok_5, ok_6, ok_7, ok_9, ok_10, ok_20, ok_21, ok_24, ok_30, ok_48, ok_50, ok_60, ok_80, ok_120, ok_180, ok_192, ok_200, ok_900, ok_1000, ok_84000]
    refine ct_join hS k47 w2 (fun J3 w3 a3 i3 => ?_)
    have w4 := w3.2.2.1
    have w5 := w3.1
    repeat' first
      | with_reducible apply And.intro
      | with_reducible assumption
      | with_reducible intro _
      | with_reducible apply hP
      | with_reducible apply sC_facts
      | with_reducible apply sC_values
      | with_reducible apply sC_signs
      | with_reducible apply sC_isTold
      | with_reducible apply sC_base
      | with_reducible apply sC_end
      | with_reducible apply sC_at
      | with_reducible apply sC_isBad
      | with_reducible apply sC_deep
      | with_reducible apply sC_valueMany
      | with_reducible apply sC_signMany
      | simp only [q202_357, q202_358, q202_359, q202_362, q202_365, q202_366, q202_369, q202_370, q202_373, q202_374, q202_377, q202_380, q202_381, q202_384, q202_385, q202_386, q202_389, q202_390, q202_393, q202_394, m_0 hS, m_K hS, mR_values hS, mK_values hS, mL_values hS, as_nil, as_i, as_r, Nat.reduceAdd, Nat.reduceLeDiff, z_eq0, z_eq1, z_or, z_em, Classical.not_not, not_false_eq_true, not_true_eq_false, true_and, and_true, false_and, and_false, and_self, true_implies, false_implies, implies_true, Option.toList_some, Option.toList_none, List.cons_append, List.nil_append, Nat.add_eq_zero_iff, a_nl_i, a_nl_r, a_nl_n, true_or, or_true, eq_self, ok_4, ok_5, ok_6, ok_7, ok_9, ok_10, ok_20, ok_21, ok_24, ok_30, ok_48, ok_50, ok_60, ok_80, ok_120, ok_180, ok_192, ok_200, ok_900, ok_1000, ok_84000]
    all_goals grind [ui_ap]
end RQ
end
section
/-! a rule is read; what fits -/
section RU
variable {d n t M : Nat} {K L : Nat → Nat} {I I0 : Nat → Nat → Int32} {R : Nat → Nat → Nat} {P : Option Value → AH → Prop}
theorem bci_psh {J : Nat → Nat → Int32} {A : Nat} {s v : Int32} (h0 : 0 ≤ s) (h1 : s < 100) : bci (a_ui J A s.toNatClampNeg v A) (s + 1).toNatClampNeg = bci (J A) s.toNatClampNeg + (if v = 33 ∨ v = 40 then 0 else 1) := by
  rw [bci_push h0 (by grind), bci_le (Nat.le_refl _)]
  simp only [ui_ap, and_self, if_true]
theorem lp_readRule_17 (hS : m_S M K L R) {e : Int32} (he : e ≤ 50) (hP : ∀ v J, mC M I0 J → J M 48 = e → (v = 0 ∨ v = 1) → P (some (.int v)) (n, t, K, L, J, R)) : ∀ a : Int32, a ≤ 52 → ∀ J w c, J M 49 = a → (w = 0 ∨ w = 1) → rW M e I0 J (1 - w) → a_at (d + 4) (a_xm a_m202) 17 [some (a_rf M), some (.int w), c] [] (n, t, K, L, J, R) P := by
  have k38 : ¬ (38 : Int32) = 0 ∧ ¬ (38 : Int32) = 33 ∧ ¬ (38 : Int32) = 40 := by decide
  have k124 : ¬ (124 : Int32) = 0 ∧ ¬ (124 : Int32) = 33 ∧ ¬ (124 : Int32) = 40 := by decide
  have k47 : ¬ (47 : Int32) = 0 ∧ ¬ (47 : Int32) = 33 ∧ ¬ (47 : Int32) = 40 := by decide
  refine us_ind 52 (fun a ha ih => ?_)
  have hN : ∀ J w c, (w = 0 ∨ w = 1) → rW M e I0 J (1 - w) → (J M 50 = 0 → a < J M 49) → a_at (d + 4) (a_xm a_m202) 17 [some (a_rf M), some (.int w), c] [] (n, t, K, L, J, R) P := by
    intro J w c h1 h2 h3
    by_cases hb : J M 50 = 0
    · exact ih _ (h3 hb) h2.2.1.2 J w c rfl h1 h2
    · rw [q202_17]
      simp only [q202_18, q202_21, m_0 hS, m_K hS, as_nil, as_i, as_r, Nat.reduceAdd, Nat.reduceLeDiff, z_eq0, z_eq1, z_or, z_em, Classical.not_not, not_false_eq_true, not_true_eq_false, true_and, and_true, false_and, and_false, and_self, true_implies, false_implies, implies_true, Option.toList_some, Option.toList_none, List.cons_append, List.nil_append, Nat.add_eq_zero_iff, a_nl_i, a_nl_r, a_nl_n, true_or, or_true, eq_self, ok_4, ok_5, ok_6, ok_7, ok_9, ok_10, ok_20, ok_21, ok_24, ok_30, ok_48, ok_50, ok_60, ok_80, ok_120, ok_180, ok_192, ok_200, ok_900, ok_1000, ok_84000, hb]
      exact lp_readRule_332 hS h2.1 h2.2.2.1 (fun h => absurd h hb) hP
  have h211 : ∀ J c, rW M e I0 J 1 → J M 49 = a → (a < e) → (c = 38 ∨ c = 124 ∨ c = 47) → a_at (d + 4) (a_xm a_m202) 211 [some (a_rf M), some (.int 0), some (.int c)] [] (n, t, K, L, J, R) P := by
    intro J c hW hA hc hcc
    obtain ⟨hC, hat, hen, hba, hsm, hvm⟩ := id hW
    have b1 := bci_psh (J := J) (A := (M + 34)) (s := J M 56) (v := c) hsm.1 (by grind)
    have hz : (1 : Int32) - 1 = 0 := by decide
    repeat' first
      | with_reducible apply And.intro
      | with_reducible assumption
      | with_reducible intro _
      | with_reducible apply hN
      | with_reducible apply rW_i
      | with_reducible apply sC_facts
      | with_reducible apply sC_values
      | with_reducible apply sC_signs
      | with_reducible apply sC_isTold
      | with_reducible apply sC_base
      | with_reducible apply sC_end
      | with_reducible apply sC_at
      | with_reducible apply sC_isBad
      | with_reducible apply sC_deep
      | with_reducible apply sC_valueMany
      | with_reducible apply sC_signMany
      | simp only [q202_211, q202_212, q202_215, q202_216, q202_219, q202_220, q202_221, q202_222, q202_223, q202_226, q202_227, q202_228, q202_231, q202_232, q202_233, q202_236, q202_237, q202_238, q202_241, q202_242, q202_243, q202_329, m_0 hS, m_K hS, mR_signs hS, mK_signs hS, mL_signs hS, as_nil, as_i, as_r, Nat.reduceAdd, Nat.reduceLeDiff, z_eq0, z_eq1, z_or, z_em, Classical.not_not, not_false_eq_true, not_true_eq_false, true_and, and_true, false_and, and_false, and_self, true_implies, false_implies, implies_true, Option.toList_some, Option.toList_none, List.cons_append, List.nil_append, Nat.add_eq_zero_iff, a_nl_i, a_nl_r, a_nl_n, true_or, or_true, eq_self, ok_4, ok_5, ok_6, ok_7, ok_9, ok_10, ok_20, ok_21, ok_24, ok_30, ok_48, ok_50, ok_60, ok_80, ok_120, ok_180, ok_192, ok_200, ok_900, ok_1000, ok_84000, ui_ap, ne_MM, ne_M0, ne_0M, Nat.reduceEqDiff, reduceIte, if_true, if_false]
    all_goals grind [ui_ap, bci_ne]
  have h264 : ∀ J c, rW M e I0 J 1 → J M 49 = a → (a < e) → a_at (d + 4) (a_xm a_m202) 264 [some (a_rf M), some (.int 0), some (.int c)] [] (n, t, K, L, J, R) P := by
    intro J c hW hA hc
    obtain ⟨hC, hat, hen, hba, hsm, hvm⟩ := id hW
    have b1 : 0 < J M 56 → _ := fun h => bci_pop (f := J (M + 34)) h (by grind)
    have hz : (1 : Int32) - 0 = 1 := by decide
    repeat' first
      | with_reducible apply And.intro
      | with_reducible assumption
      | with_reducible intro _
      | with_reducible apply hN
      | with_reducible apply ct_partEnds hS (e := e) (I0 := I0)
      | with_reducible apply rW_i
      | with_reducible apply sC_facts
      | with_reducible apply sC_values
      | with_reducible apply sC_signs
      | with_reducible apply sC_isTold
      | with_reducible apply sC_base
      | with_reducible apply sC_end
      | with_reducible apply sC_at
      | with_reducible apply sC_isBad
      | with_reducible apply sC_deep
      | with_reducible apply sC_valueMany
      | with_reducible apply sC_signMany
      | simp only [q202_264, q202_265, q202_266, q202_268, q202_271, q202_272, q202_275, q202_277, q202_280, q202_281, q202_284, q202_285, q202_288, q202_289, q202_292, q202_295, q202_296, q202_297, q202_300, q202_301, q202_302, q202_305, q202_306, q202_307, q202_310, q202_311, q202_312, q202_315, q202_316, q202_317, q202_320, q202_321, q202_322, q202_325, q202_326, q202_329, m_0 hS, m_K hS, sp_topSign hS, as_nil, as_i, as_r, Nat.reduceAdd, Nat.reduceLeDiff, z_eq0, z_eq1, z_or, z_em, Classical.not_not, not_false_eq_true, not_true_eq_false, true_and, and_true, false_and, and_false, and_self, true_implies, false_implies, implies_true, Option.toList_some, Option.toList_none, List.cons_append, List.nil_append, Nat.add_eq_zero_iff, a_nl_i, a_nl_r, a_nl_n, true_or, or_true, eq_self, ok_4, ok_5, ok_6, ok_7, ok_9, ok_10, ok_20, ok_21, ok_24, ok_30, ok_48, ok_50, ok_60, ok_80, ok_120, ok_180, ok_192, ok_200, ok_900, ok_1000, ok_84000, ui_ap, ne_MM, ne_M0, ne_0M, Nat.reduceEqDiff, reduceIte, if_true, if_false]
    all_goals grind [ui_ap, bci_ne, rW]
  intro J w c hA hw hW
  obtain ⟨hC, hat, hen, hba, hsm, hvm⟩ := id hW
  have hEJ : rE M J := ⟨hat, by grind, hba⟩
  have hTJ : rT M J J := rT_refl hC.1 hEJ
  have hz0 : (1 : Int32) - 0 = 1 := by decide
  have hz1 : (1 : Int32) - 1 = 0 := by decide
  have b0 := bci_rng (f := J (M + 34)) hsm.1 (by grind)
  have h131 : w = 1 → ∀ c, a_at (d + 4) (a_xm a_m202) 131 [some (a_rf M), some (.int w), some (.int c)] [] (n, t, K, L, J, R) P := by
    intro hw1 c
    simp only [q202_131, q202_132, q202_135, q202_136, q202_139, q202_140, m_0 hS, m_K hS, mR_values hS, mK_values hS, mL_values hS, as_nil, as_i, as_r, Nat.reduceAdd, Nat.reduceLeDiff, z_eq0, z_eq1, z_or, z_em, Classical.not_not, not_false_eq_true, not_true_eq_false, true_and, and_true, false_and, and_false, and_self, true_implies, false_implies, implies_true, Option.toList_some, Option.toList_none, List.cons_append, List.nil_append, Nat.add_eq_zero_iff, a_nl_i, a_nl_r, a_nl_n, true_or, or_true, eq_self, ok_4, ok_5, ok_6, ok_7, ok_9, ok_10, ok_20, ok_21, ok_24, ok_30, ok_48, ok_50, ok_60, ok_80, ok_120, ok_180, ok_192, ok_200, ok_900, ok_1000, ok_84000]
    refine ct_readTest hS hEJ hTJ (fun v J1 t1 g1 z1 => ?_)
    have e1 := rT_fun t1 (A := (M + 34)) (by omega)
    have e2 := rT_cell t1 (j := 56) (by omega)
    have e3 := rT_cell t1 (j := 54) (by omega)
    have e4 := rT_end t1
    have e5 := rT_base t1
    have e6 := mC_T hC t1
    obtain ⟨-, -, u1, u2⟩ := id t1
    simp only [q202_143, q202_144, q202_145, q202_146, q202_149, q202_150, q202_151, q202_154, q202_155, q202_156, q202_157, m_0 hS, m_K hS, as_nil, as_i, as_r, Nat.reduceAdd, Nat.reduceLeDiff, z_eq0, z_eq1, z_or, z_em, Classical.not_not, not_false_eq_true, not_true_eq_false, true_and, and_true, false_and, and_false, and_self, true_implies, false_implies, implies_true, Option.toList_some, Option.toList_none, List.cons_append, List.nil_append, Nat.add_eq_zero_iff, a_nl_i, a_nl_r, a_nl_n, true_or, or_true, eq_self, ok_4, ok_5, ok_6, ok_7, ok_9, ok_10, ok_20, ok_21, ok_24, ok_30, ok_48, ok_50, ok_60, ok_80, ok_120, ok_180, ok_192, ok_200, ok_900, ok_1000, ok_84000, ui_ap, ne_MM, ne_M0, ne_0M, Nat.reduceEqDiff, reduceIte, if_true, if_false, mK_values hS, mL_values hS]
    refine ⟨⟨by grind, by grind⟩, ?_⟩
    refine ct_partEnds hS (J := a_ui (a_ui J1 (M + 33) (J M 54).toNatClampNeg (v &&& 1)) M 54 (J1 M 54 + 1)) (e := e) (I0 := I0) ?_ ?_
    · refine rW_i (sC_valueMany (sC_values e6)) ?_ ?_ ?_ ?_ ?_ <;> grind [ui_ap, bci_ne]
    · intro J2 w2 a2 i2
      simp only [q202_160, q202_329, as_nil, as_i, as_r, Nat.reduceAdd, Nat.reduceLeDiff, z_eq0, z_eq1, z_or, z_em, Classical.not_not, not_false_eq_true, not_true_eq_false, true_and, and_true, false_and, and_false, and_self, true_implies, false_implies, implies_true, Option.toList_some, Option.toList_none, List.cons_append, List.nil_append, Nat.add_eq_zero_iff, a_nl_i, a_nl_r, a_nl_n, true_or, or_true, eq_self, ok_4, ok_5, ok_6, ok_7, ok_9, ok_10, ok_20, ok_21, ok_24, ok_30, ok_48, ok_50, ok_60, ok_80, ok_120, ok_180, ok_192, ok_200, ok_900, ok_1000, ok_84000]
      exact hN J2 0 _ (Or.inl rfl) (by rw [hz0]; exact w2) (by grind [ui_ap])
  rw [q202_17]
  repeat' first
    | with_reducible apply And.intro
    | with_reducible assumption
    | with_reducible intro _
    | with_reducible apply hN
    | with_reducible apply h211
    | with_reducible apply h264
    | with_reducible apply h131
    | with_reducible apply ct_here hS hEJ hTJ
    | with_reducible apply ct_join hS (e := e) (I0 := I0) k38
    | with_reducible apply ct_join hS (e := e) (I0 := I0) k124
    | with_reducible apply ct_join hS (e := e) (I0 := I0) k47
    | with_reducible apply lp_readRule_332 hS
    | with_reducible apply hP
    | with_reducible apply rW_i
    | with_reducible apply sC_facts
    | with_reducible apply sC_values
    | with_reducible apply sC_signs
    | with_reducible apply sC_isTold
    | with_reducible apply sC_base
    | with_reducible apply sC_end
    | with_reducible apply sC_at
    | with_reducible apply sC_isBad
    | with_reducible apply sC_deep
    | with_reducible apply sC_valueMany
    | with_reducible apply sC_signMany
    | simp only [q202_18, q202_21, q202_24, q202_25, q202_28, q202_29, q202_32, q202_33, q202_36, q202_39, q202_40, q202_43, q202_44, q202_45, q202_48, q202_49, q202_51, q202_54, q202_55, q202_57, q202_60, q202_61, q202_62, q202_65, q202_66, q202_69, q202_70, q202_73, q202_74, q202_77, q202_78, q202_81, q202_84, q202_85, q202_86, q202_89, q202_90, q202_91, q202_94, q202_95, q202_98, q202_99, q202_102, q202_103, q202_104, q202_105, q202_106, q202_109, q202_110, q202_111, q202_114, q202_115, q202_116, q202_119, q202_120, q202_121, q202_124, q202_127, q202_128, q202_163, q202_164, q202_166, q202_169, q202_170, q202_172, q202_175, q202_176, q202_178, q202_181, q202_182, q202_184, q202_187, q202_188, q202_190, q202_193, q202_194, q202_196, q202_199, q202_200, q202_202, q202_205, q202_206, q202_208, q202_246, q202_247, q202_249, q202_252, q202_253, q202_255, q202_258, q202_259, q202_261, q202_329, m_0 hS, m_K hS, mR_signs hS, mK_signs hS, mL_signs hS, as_nil, as_i, as_r, Nat.reduceAdd, Nat.reduceLeDiff, z_eq0, z_eq1, z_or, z_em, Classical.not_not, not_false_eq_true, not_true_eq_false, true_and, and_true, false_and, and_false, and_self, true_implies, false_implies, implies_true, Option.toList_some, Option.toList_none, List.cons_append, List.nil_append, Nat.add_eq_zero_iff, a_nl_i, a_nl_r, a_nl_n, true_or, or_true, eq_self, ok_4, ok_5, ok_6, ok_7, ok_9, ok_10, ok_20, ok_21, ok_24, ok_30, ok_48, ok_50, ok_60, ok_80, ok_120, ok_180, ok_192, ok_200, ok_900, ok_1000, ok_84000, ui_ap, ne_MM, ne_M0, ne_0M, Nat.reduceEqDiff, reduceIte, if_true, if_false]
  all_goals grind [ui_ap, bci_ne, bci_psh, hv, rW]
end RU
end
