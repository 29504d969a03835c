/-! the class: its object at C, its cells behind it -/
def c_ks : List (Nat × Nat) := [(0, 12), (1, 2), (7, 9), (11, 10), (14, 6), (17, 7), (22, 8), (27, 4), (35, 5), (2, 20), (3, 20), (4, 20), (5, 20), (6, 20), (8, 32), (9, 20), (10, 20), (12, 20), (13, 20), (15, 22), (16, 24), (18, 20), (19, 20), (20, 20), (21, 20), (23, 22), (24, 20), (25, 20), (26, 20), (28, 22), (29, 20), (30, 20), (31, 20), (32, 20), (33, 20), (34, 20), (36, 20), (37, 20), (38, 22), (39, 20), (40, 20), (41, 20), (42, 20), (43, 20)]
def c_ls : List (Nat × Nat) := [(2, 200), (3, 200), (4, 20), (5, 20), (6, 20), (8, 20), (9, 9), (10, 50), (12, 50), (13, 50), (15, 30), (16, 6), (18, 6), (19, 6), (20, 180), (21, 6), (23, 30), (24, 30), (25, 30), (26, 30), (28, 4), (29, 192), (30, 192), (31, 4), (32, 5), (33, 4), (34, 4), (36, 30), (37, 30), (38, 5), (39, 5), (40, 5), (41, 20), (42, 7), (43, 21)]
def c_rs : List (Nat × Nat × Nat) := [(0, 0, 1), (0, 1, 7), (0, 2, 11), (0, 3, 17), (0, 4, 14), (0, 5, 22), (0, 6, 27), (0, 7, 35), (14, 0, 1), (14, 1, 7), (17, 0, 14), (22, 0, 14), (22, 1, 1), (27, 0, 14), (35, 0, 14), (1, 0, 2), (1, 1, 3), (1, 2, 4), (1, 3, 5), (1, 4, 6), (7, 0, 8), (7, 1, 9), (7, 2, 10), (11, 0, 12), (11, 1, 13), (14, 2, 15), (14, 3, 16), (17, 1, 18), (17, 2, 19), (17, 3, 20), (17, 4, 21), (22, 2, 23), (22, 3, 24), (22, 4, 25), (22, 5, 26), (27, 1, 28), (27, 2, 29), (27, 3, 30), (27, 4, 31), (27, 5, 32), (27, 6, 33), (27, 7, 34), (35, 1, 36), (35, 2, 37), (35, 3, 38), (35, 4, 39), (35, 5, 40), (35, 6, 41), (0, 8, 42), (0, 9, 43)]
/-- where the class has its cells -/
def cS (C : Nat) (K L : Nat → Nat) (R : Nat → Nat → Nat) : Prop := ¬ C = 0 ∧ (∀ q ∈ c_ks, K (C + q.1) = q.2) ∧ (∀ q ∈ c_ls, L (C + q.1) = q.2) ∧ ∀ q ∈ c_rs, R (C + q.1) q.2.1 = C + q.2.2
section CL
variable {C : Nat} {K L : Nat → Nat} {R : Nat → Nat → Nat}
theorem k_0 (h : cS C K L R) : K (C) = 12 := h.2.1 _ (List.mem_of_getElem? (i := 0) rfl)
theorem k_1 (h : cS C K L R) : K (C + 1) = 2 := h.2.1 _ (List.mem_of_getElem? (i := 1) rfl)
theorem k_7 (h : cS C K L R) : K (C + 7) = 9 := h.2.1 _ (List.mem_of_getElem? (i := 2) rfl)
theorem k_11 (h : cS C K L R) : K (C + 11) = 10 := h.2.1 _ (List.mem_of_getElem? (i := 3) rfl)
theorem k_14 (h : cS C K L R) : K (C + 14) = 6 := h.2.1 _ (List.mem_of_getElem? (i := 4) rfl)
theorem k_17 (h : cS C K L R) : K (C + 17) = 7 := h.2.1 _ (List.mem_of_getElem? (i := 5) rfl)
theorem k_22 (h : cS C K L R) : K (C + 22) = 8 := h.2.1 _ (List.mem_of_getElem? (i := 6) rfl)
theorem k_27 (h : cS C K L R) : K (C + 27) = 4 := h.2.1 _ (List.mem_of_getElem? (i := 7) rfl)
theorem k_35 (h : cS C K L R) : K (C + 35) = 5 := h.2.1 _ (List.mem_of_getElem? (i := 8) rfl)
theorem k_2 (h : cS C K L R) : K (C + 2) = 20 := h.2.1 _ (List.mem_of_getElem? (i := 9) rfl)
theorem k_3 (h : cS C K L R) : K (C + 3) = 20 := h.2.1 _ (List.mem_of_getElem? (i := 10) rfl)
theorem k_4 (h : cS C K L R) : K (C + 4) = 20 := h.2.1 _ (List.mem_of_getElem? (i := 11) rfl)
theorem k_5 (h : cS C K L R) : K (C + 5) = 20 := h.2.1 _ (List.mem_of_getElem? (i := 12) rfl)
theorem k_6 (h : cS C K L R) : K (C + 6) = 20 := h.2.1 _ (List.mem_of_getElem? (i := 13) rfl)
theorem k_8 (h : cS C K L R) : K (C + 8) = 32 := h.2.1 _ (List.mem_of_getElem? (i := 14) rfl)
theorem k_9 (h : cS C K L R) : K (C + 9) = 20 := h.2.1 _ (List.mem_of_getElem? (i := 15) rfl)
theorem k_10 (h : cS C K L R) : K (C + 10) = 20 := h.2.1 _ (List.mem_of_getElem? (i := 16) rfl)
theorem k_12 (h : cS C K L R) : K (C + 12) = 20 := h.2.1 _ (List.mem_of_getElem? (i := 17) rfl)
theorem k_13 (h : cS C K L R) : K (C + 13) = 20 := h.2.1 _ (List.mem_of_getElem? (i := 18) rfl)
theorem k_15 (h : cS C K L R) : K (C + 15) = 22 := h.2.1 _ (List.mem_of_getElem? (i := 19) rfl)
theorem k_16 (h : cS C K L R) : K (C + 16) = 24 := h.2.1 _ (List.mem_of_getElem? (i := 20) rfl)
theorem k_18 (h : cS C K L R) : K (C + 18) = 20 := h.2.1 _ (List.mem_of_getElem? (i := 21) rfl)
theorem k_19 (h : cS C K L R) : K (C + 19) = 20 := h.2.1 _ (List.mem_of_getElem? (i := 22) rfl)
theorem k_20 (h : cS C K L R) : K (C + 20) = 20 := h.2.1 _ (List.mem_of_getElem? (i := 23) rfl)
theorem k_21 (h : cS C K L R) : K (C + 21) = 20 := h.2.1 _ (List.mem_of_getElem? (i := 24) rfl)
theorem k_23 (h : cS C K L R) : K (C + 23) = 22 := h.2.1 _ (List.mem_of_getElem? (i := 25) rfl)
theorem k_24 (h : cS C K L R) : K (C + 24) = 20 := h.2.1 _ (List.mem_of_getElem? (i := 26) rfl)
theorem k_25 (h : cS C K L R) : K (C + 25) = 20 := h.2.1 _ (List.mem_of_getElem? (i := 27) rfl)
theorem k_26 (h : cS C K L R) : K (C + 26) = 20 := h.2.1 _ (List.mem_of_getElem? (i := 28) rfl)
theorem k_28 (h : cS C K L R) : K (C + 28) = 22 := h.2.1 _ (List.mem_of_getElem? (i := 29) rfl)
theorem k_29 (h : cS C K L R) : K (C + 29) = 20 := h.2.1 _ (List.mem_of_getElem? (i := 30) rfl)
theorem k_30 (h : cS C K L R) : K (C + 30) = 20 := h.2.1 _ (List.mem_of_getElem? (i := 31) rfl)
theorem k_31 (h : cS C K L R) : K (C + 31) = 20 := h.2.1 _ (List.mem_of_getElem? (i := 32) rfl)
theorem k_32 (h : cS C K L R) : K (C + 32) = 20 := h.2.1 _ (List.mem_of_getElem? (i := 33) rfl)
theorem k_33 (h : cS C K L R) : K (C + 33) = 20 := h.2.1 _ (List.mem_of_getElem? (i := 34) rfl)
theorem k_34 (h : cS C K L R) : K (C + 34) = 20 := h.2.1 _ (List.mem_of_getElem? (i := 35) rfl)
theorem k_36 (h : cS C K L R) : K (C + 36) = 20 := h.2.1 _ (List.mem_of_getElem? (i := 36) rfl)
theorem k_37 (h : cS C K L R) : K (C + 37) = 20 := h.2.1 _ (List.mem_of_getElem? (i := 37) rfl)
theorem k_38 (h : cS C K L R) : K (C + 38) = 22 := h.2.1 _ (List.mem_of_getElem? (i := 38) rfl)
theorem k_39 (h : cS C K L R) : K (C + 39) = 20 := h.2.1 _ (List.mem_of_getElem? (i := 39) rfl)
theorem k_40 (h : cS C K L R) : K (C + 40) = 20 := h.2.1 _ (List.mem_of_getElem? (i := 40) rfl)
theorem k_41 (h : cS C K L R) : K (C + 41) = 20 := h.2.1 _ (List.mem_of_getElem? (i := 41) rfl)
theorem k_42 (h : cS C K L R) : K (C + 42) = 20 := h.2.1 _ (List.mem_of_getElem? (i := 42) rfl)
theorem k_43 (h : cS C K L R) : K (C + 43) = 20 := h.2.1 _ (List.mem_of_getElem? (i := 43) rfl)
theorem l_2 (h : cS C K L R) : L (C + 2) = 200 := h.2.2.1 _ (List.mem_of_getElem? (i := 0) rfl)
theorem l_3 (h : cS C K L R) : L (C + 3) = 200 := h.2.2.1 _ (List.mem_of_getElem? (i := 1) rfl)
theorem l_4 (h : cS C K L R) : L (C + 4) = 20 := h.2.2.1 _ (List.mem_of_getElem? (i := 2) rfl)
theorem l_5 (h : cS C K L R) : L (C + 5) = 20 := h.2.2.1 _ (List.mem_of_getElem? (i := 3) rfl)
theorem l_6 (h : cS C K L R) : L (C + 6) = 20 := h.2.2.1 _ (List.mem_of_getElem? (i := 4) rfl)
theorem l_8 (h : cS C K L R) : L (C + 8) = 20 := h.2.2.1 _ (List.mem_of_getElem? (i := 5) rfl)
theorem l_9 (h : cS C K L R) : L (C + 9) = 9 := h.2.2.1 _ (List.mem_of_getElem? (i := 6) rfl)
theorem l_10 (h : cS C K L R) : L (C + 10) = 50 := h.2.2.1 _ (List.mem_of_getElem? (i := 7) rfl)
theorem l_12 (h : cS C K L R) : L (C + 12) = 50 := h.2.2.1 _ (List.mem_of_getElem? (i := 8) rfl)
theorem l_13 (h : cS C K L R) : L (C + 13) = 50 := h.2.2.1 _ (List.mem_of_getElem? (i := 9) rfl)
theorem l_15 (h : cS C K L R) : L (C + 15) = 30 := h.2.2.1 _ (List.mem_of_getElem? (i := 10) rfl)
theorem l_16 (h : cS C K L R) : L (C + 16) = 6 := h.2.2.1 _ (List.mem_of_getElem? (i := 11) rfl)
theorem l_18 (h : cS C K L R) : L (C + 18) = 6 := h.2.2.1 _ (List.mem_of_getElem? (i := 12) rfl)
theorem l_19 (h : cS C K L R) : L (C + 19) = 6 := h.2.2.1 _ (List.mem_of_getElem? (i := 13) rfl)
theorem l_20 (h : cS C K L R) : L (C + 20) = 180 := h.2.2.1 _ (List.mem_of_getElem? (i := 14) rfl)
theorem l_21 (h : cS C K L R) : L (C + 21) = 6 := h.2.2.1 _ (List.mem_of_getElem? (i := 15) rfl)
theorem l_23 (h : cS C K L R) : L (C + 23) = 30 := h.2.2.1 _ (List.mem_of_getElem? (i := 16) rfl)
theorem l_24 (h : cS C K L R) : L (C + 24) = 30 := h.2.2.1 _ (List.mem_of_getElem? (i := 17) rfl)
theorem l_25 (h : cS C K L R) : L (C + 25) = 30 := h.2.2.1 _ (List.mem_of_getElem? (i := 18) rfl)
theorem l_26 (h : cS C K L R) : L (C + 26) = 30 := h.2.2.1 _ (List.mem_of_getElem? (i := 19) rfl)
theorem l_28 (h : cS C K L R) : L (C + 28) = 4 := h.2.2.1 _ (List.mem_of_getElem? (i := 20) rfl)
theorem l_29 (h : cS C K L R) : L (C + 29) = 192 := h.2.2.1 _ (List.mem_of_getElem? (i := 21) rfl)
theorem l_30 (h : cS C K L R) : L (C + 30) = 192 := h.2.2.1 _ (List.mem_of_getElem? (i := 22) rfl)
theorem l_31 (h : cS C K L R) : L (C + 31) = 4 := h.2.2.1 _ (List.mem_of_getElem? (i := 23) rfl)
theorem l_32 (h : cS C K L R) : L (C + 32) = 5 := h.2.2.1 _ (List.mem_of_getElem? (i := 24) rfl)
theorem l_33 (h : cS C K L R) : L (C + 33) = 4 := h.2.2.1 _ (List.mem_of_getElem? (i := 25) rfl)
theorem l_34 (h : cS C K L R) : L (C + 34) = 4 := h.2.2.1 _ (List.mem_of_getElem? (i := 26) rfl)
theorem l_36 (h : cS C K L R) : L (C + 36) = 30 := h.2.2.1 _ (List.mem_of_getElem? (i := 27) rfl)
theorem l_37 (h : cS C K L R) : L (C + 37) = 30 := h.2.2.1 _ (List.mem_of_getElem? (i := 28) rfl)
theorem l_38 (h : cS C K L R) : L (C + 38) = 5 := h.2.2.1 _ (List.mem_of_getElem? (i := 29) rfl)
theorem l_39 (h : cS C K L R) : L (C + 39) = 5 := h.2.2.1 _ (List.mem_of_getElem? (i := 30) rfl)
theorem l_40 (h : cS C K L R) : L (C + 40) = 5 := h.2.2.1 _ (List.mem_of_getElem? (i := 31) rfl)
theorem l_41 (h : cS C K L R) : L (C + 41) = 20 := h.2.2.1 _ (List.mem_of_getElem? (i := 32) rfl)
theorem l_42 (h : cS C K L R) : L (C + 42) = 7 := h.2.2.1 _ (List.mem_of_getElem? (i := 33) rfl)
theorem l_43 (h : cS C K L R) : L (C + 43) = 21 := h.2.2.1 _ (List.mem_of_getElem? (i := 34) rfl)
theorem r_0_0 (h : cS C K L R) : R (C) 0 = C + 1 := h.2.2.2 _ (List.mem_of_getElem? (i := 0) rfl)
theorem r_0_1 (h : cS C K L R) : R (C) 1 = C + 7 := h.2.2.2 _ (List.mem_of_getElem? (i := 1) rfl)
theorem r_0_2 (h : cS C K L R) : R (C) 2 = C + 11 := h.2.2.2 _ (List.mem_of_getElem? (i := 2) rfl)
theorem r_0_3 (h : cS C K L R) : R (C) 3 = C + 17 := h.2.2.2 _ (List.mem_of_getElem? (i := 3) rfl)
theorem r_0_4 (h : cS C K L R) : R (C) 4 = C + 14 := h.2.2.2 _ (List.mem_of_getElem? (i := 4) rfl)
theorem r_0_5 (h : cS C K L R) : R (C) 5 = C + 22 := h.2.2.2 _ (List.mem_of_getElem? (i := 5) rfl)
theorem r_0_6 (h : cS C K L R) : R (C) 6 = C + 27 := h.2.2.2 _ (List.mem_of_getElem? (i := 6) rfl)
theorem r_0_7 (h : cS C K L R) : R (C) 7 = C + 35 := h.2.2.2 _ (List.mem_of_getElem? (i := 7) rfl)
theorem r_14_0 (h : cS C K L R) : R (C + 14) 0 = C + 1 := h.2.2.2 _ (List.mem_of_getElem? (i := 8) rfl)
theorem r_14_1 (h : cS C K L R) : R (C + 14) 1 = C + 7 := h.2.2.2 _ (List.mem_of_getElem? (i := 9) rfl)
theorem r_17_0 (h : cS C K L R) : R (C + 17) 0 = C + 14 := h.2.2.2 _ (List.mem_of_getElem? (i := 10) rfl)
theorem r_22_0 (h : cS C K L R) : R (C + 22) 0 = C + 14 := h.2.2.2 _ (List.mem_of_getElem? (i := 11) rfl)
theorem r_22_1 (h : cS C K L R) : R (C + 22) 1 = C + 1 := h.2.2.2 _ (List.mem_of_getElem? (i := 12) rfl)
theorem r_27_0 (h : cS C K L R) : R (C + 27) 0 = C + 14 := h.2.2.2 _ (List.mem_of_getElem? (i := 13) rfl)
theorem r_35_0 (h : cS C K L R) : R (C + 35) 0 = C + 14 := h.2.2.2 _ (List.mem_of_getElem? (i := 14) rfl)
theorem r_1_0 (h : cS C K L R) : R (C + 1) 0 = C + 2 := h.2.2.2 _ (List.mem_of_getElem? (i := 15) rfl)
theorem r_1_1 (h : cS C K L R) : R (C + 1) 1 = C + 3 := h.2.2.2 _ (List.mem_of_getElem? (i := 16) rfl)
theorem r_1_2 (h : cS C K L R) : R (C + 1) 2 = C + 4 := h.2.2.2 _ (List.mem_of_getElem? (i := 17) rfl)
theorem r_1_3 (h : cS C K L R) : R (C + 1) 3 = C + 5 := h.2.2.2 _ (List.mem_of_getElem? (i := 18) rfl)
theorem r_1_4 (h : cS C K L R) : R (C + 1) 4 = C + 6 := h.2.2.2 _ (List.mem_of_getElem? (i := 19) rfl)
theorem r_7_0 (h : cS C K L R) : R (C + 7) 0 = C + 8 := h.2.2.2 _ (List.mem_of_getElem? (i := 20) rfl)
theorem r_7_1 (h : cS C K L R) : R (C + 7) 1 = C + 9 := h.2.2.2 _ (List.mem_of_getElem? (i := 21) rfl)
theorem r_7_2 (h : cS C K L R) : R (C + 7) 2 = C + 10 := h.2.2.2 _ (List.mem_of_getElem? (i := 22) rfl)
theorem r_11_0 (h : cS C K L R) : R (C + 11) 0 = C + 12 := h.2.2.2 _ (List.mem_of_getElem? (i := 23) rfl)
theorem r_11_1 (h : cS C K L R) : R (C + 11) 1 = C + 13 := h.2.2.2 _ (List.mem_of_getElem? (i := 24) rfl)
theorem r_14_2 (h : cS C K L R) : R (C + 14) 2 = C + 15 := h.2.2.2 _ (List.mem_of_getElem? (i := 25) rfl)
theorem r_14_3 (h : cS C K L R) : R (C + 14) 3 = C + 16 := h.2.2.2 _ (List.mem_of_getElem? (i := 26) rfl)
theorem r_17_1 (h : cS C K L R) : R (C + 17) 1 = C + 18 := h.2.2.2 _ (List.mem_of_getElem? (i := 27) rfl)
theorem r_17_2 (h : cS C K L R) : R (C + 17) 2 = C + 19 := h.2.2.2 _ (List.mem_of_getElem? (i := 28) rfl)
theorem r_17_3 (h : cS C K L R) : R (C + 17) 3 = C + 20 := h.2.2.2 _ (List.mem_of_getElem? (i := 29) rfl)
theorem r_17_4 (h : cS C K L R) : R (C + 17) 4 = C + 21 := h.2.2.2 _ (List.mem_of_getElem? (i := 30) rfl)
theorem r_22_2 (h : cS C K L R) : R (C + 22) 2 = C + 23 := h.2.2.2 _ (List.mem_of_getElem? (i := 31) rfl)
theorem r_22_3 (h : cS C K L R) : R (C + 22) 3 = C + 24 := h.2.2.2 _ (List.mem_of_getElem? (i := 32) rfl)
theorem r_22_4 (h : cS C K L R) : R (C + 22) 4 = C + 25 := h.2.2.2 _ (List.mem_of_getElem? (i := 33) rfl)
theorem r_22_5 (h : cS C K L R) : R (C + 22) 5 = C + 26 := h.2.2.2 _ (List.mem_of_getElem? (i := 34) rfl)
theorem r_27_1 (h : cS C K L R) : R (C + 27) 1 = C + 28 := h.2.2.2 _ (List.mem_of_getElem? (i := 35) rfl)
theorem r_27_2 (h : cS C K L R) : R (C + 27) 2 = C + 29 := h.2.2.2 _ (List.mem_of_getElem? (i := 36) rfl)
theorem r_27_3 (h : cS C K L R) : R (C + 27) 3 = C + 30 := h.2.2.2 _ (List.mem_of_getElem? (i := 37) rfl)
theorem r_27_4 (h : cS C K L R) : R (C + 27) 4 = C + 31 := h.2.2.2 _ (List.mem_of_getElem? (i := 38) rfl)
theorem r_27_5 (h : cS C K L R) : R (C + 27) 5 = C + 32 := h.2.2.2 _ (List.mem_of_getElem? (i := 39) rfl)
theorem r_27_6 (h : cS C K L R) : R (C + 27) 6 = C + 33 := h.2.2.2 _ (List.mem_of_getElem? (i := 40) rfl)
theorem r_27_7 (h : cS C K L R) : R (C + 27) 7 = C + 34 := h.2.2.2 _ (List.mem_of_getElem? (i := 41) rfl)
theorem r_35_1 (h : cS C K L R) : R (C + 35) 1 = C + 36 := h.2.2.2 _ (List.mem_of_getElem? (i := 42) rfl)
theorem r_35_2 (h : cS C K L R) : R (C + 35) 2 = C + 37 := h.2.2.2 _ (List.mem_of_getElem? (i := 43) rfl)
theorem r_35_3 (h : cS C K L R) : R (C + 35) 3 = C + 38 := h.2.2.2 _ (List.mem_of_getElem? (i := 44) rfl)
theorem r_35_4 (h : cS C K L R) : R (C + 35) 4 = C + 39 := h.2.2.2 _ (List.mem_of_getElem? (i := 45) rfl)
theorem r_35_5 (h : cS C K L R) : R (C + 35) 5 = C + 40 := h.2.2.2 _ (List.mem_of_getElem? (i := 46) rfl)
theorem r_35_6 (h : cS C K L R) : R (C + 35) 6 = C + 41 := h.2.2.2 _ (List.mem_of_getElem? (i := 47) rfl)
theorem r_0_8 (h : cS C K L R) : R (C) 8 = C + 42 := h.2.2.2 _ (List.mem_of_getElem? (i := 48) rfl)
theorem r_0_9 (h : cS C K L R) : R (C) 9 = C + 43 := h.2.2.2 _ (List.mem_of_getElem? (i := 49) rfl)
theorem z_C (h : cS C K L R) : (C = 0) = False := eq_false h.1
theorem z_1 : (C + 1 = 0) = False := eq_false (by omega)
theorem z_2 : (C + 2 = 0) = False := eq_false (by omega)
theorem z_3 : (C + 3 = 0) = False := eq_false (by omega)
theorem z_4 : (C + 4 = 0) = False := eq_false (by omega)
theorem z_5 : (C + 5 = 0) = False := eq_false (by omega)
theorem z_6 : (C + 6 = 0) = False := eq_false (by omega)
theorem z_7 : (C + 7 = 0) = False := eq_false (by omega)
theorem z_8 : (C + 8 = 0) = False := eq_false (by omega)
theorem z_9 : (C + 9 = 0) = False := eq_false (by omega)
theorem z_10 : (C + 10 = 0) = False := eq_false (by omega)
theorem z_11 : (C + 11 = 0) = False := eq_false (by omega)
theorem z_12 : (C + 12 = 0) = False := eq_false (by omega)
theorem z_13 : (C + 13 = 0) = False := eq_false (by omega)
theorem z_14 : (C + 14 = 0) = False := eq_false (by omega)
theorem z_15 : (C + 15 = 0) = False := eq_false (by omega)
theorem z_16 : (C + 16 = 0) = False := eq_false (by omega)
theorem z_17 : (C + 17 = 0) = False := eq_false (by omega)
theorem z_18 : (C + 18 = 0) = False := eq_false (by omega)
theorem z_19 : (C + 19 = 0) = False := eq_false (by omega)
theorem z_20 : (C + 20 = 0) = False := eq_false (by omega)
theorem z_21 : (C + 21 = 0) = False := eq_false (by omega)
theorem z_22 : (C + 22 = 0) = False := eq_false (by omega)
theorem z_23 : (C + 23 = 0) = False := eq_false (by omega)
theorem z_24 : (C + 24 = 0) = False := eq_false (by omega)
theorem z_25 : (C + 25 = 0) = False := eq_false (by omega)
theorem z_26 : (C + 26 = 0) = False := eq_false (by omega)
theorem z_27 : (C + 27 = 0) = False := eq_false (by omega)
theorem z_28 : (C + 28 = 0) = False := eq_false (by omega)
theorem z_29 : (C + 29 = 0) = False := eq_false (by omega)
theorem z_30 : (C + 30 = 0) = False := eq_false (by omega)
theorem z_31 : (C + 31 = 0) = False := eq_false (by omega)
theorem z_32 : (C + 32 = 0) = False := eq_false (by omega)
theorem z_33 : (C + 33 = 0) = False := eq_false (by omega)
theorem z_34 : (C + 34 = 0) = False := eq_false (by omega)
theorem z_35 : (C + 35 = 0) = False := eq_false (by omega)
theorem z_36 : (C + 36 = 0) = False := eq_false (by omega)
theorem z_37 : (C + 37 = 0) = False := eq_false (by omega)
theorem z_38 : (C + 38 = 0) = False := eq_false (by omega)
theorem z_39 : (C + 39 = 0) = False := eq_false (by omega)
theorem z_40 : (C + 40 = 0) = False := eq_false (by omega)
theorem z_41 : (C + 41 = 0) = False := eq_false (by omega)
theorem z_42 : (C + 42 = 0) = False := eq_false (by omega)
theorem z_43 : (C + 43 = 0) = False := eq_false (by omega)
end CL
/-- what holds of the class's numbers and references at all times -/
def cT (C : Nat) (K L : Nat → Nat) (I : Nat → Nat → Int32) (R : Nat → Nat → Nat) : Prop :=
  (cS C K L R) ∧
  (0 ≤ I (C + 1) 6 ∧ I (C + 1) 6 ≤ 1600) ∧
  (0 ≤ I (C + 1) 5 ∧ I (C + 1) 5 ≤ 20) ∧
  (0 ≤ I (C + 7) 3 ∧ I (C + 7) 3 ≤ 20) ∧
  (0 ≤ I (C + 11) 2 ∧ I (C + 11) 2 ≤ 50) ∧
  (0 ≤ I (C + 11) 3 ∧ I (C + 11) 3 ≤ 50) ∧
  (0 ≤ I (C + 11) 4 ∧ I (C + 11) 4 ≤ 50) ∧
  (0 ≤ I (C + 14) 4 ∧ I (C + 14) 4 ≤ 30) ∧
  (0 ≤ I (C + 14) 5 ∧ I (C + 14) 5 ≤ 6) ∧
  (0 ≤ I (C + 22) 6 ∧ I (C + 22) 6 ≤ 30) ∧
  (0 ≤ I (C + 22) 7 ∧ I (C + 22) 7 ≤ 30) ∧
  (0 ≤ I (C + 27) 8 ∧ I (C + 27) 8 ≤ 4) ∧
  (0 ≤ I (C + 35) 7 ∧ I (C + 35) 7 ≤ 5) ∧
  (0 ≤ I (C) 10 ∧ I (C) 10 ≤ 21) ∧
  (0 ≤ I (C + 14) 6 ∧ I (C + 14) 6 ≤ 3) ∧
  (∀ j, 0 ≤ I (C + 3) j ∧ I (C + 3) j ≤ 255) ∧
  (∀ j, 0 ≤ I (C + 31) j ∧ I (C + 31) j ≤ 48) ∧
  (∀ a, K a = 1 → C + 96 < a ∧ (1 ≤ I a 2 ∧ I a 2 ≤ 4) ∧ (0 ≤ I a 4 ∧ I a 4 ≤ 29) ∧ (0 ≤ I a 13 → 0 ≤ I a 14 ∧ I a 14 ≤ 199 ∧ I a 14 + I a 2 ≤ 200)) ∧
  (∀ b, K b = 3 → C + 96 < b ∧ (C + 96 < R b 2 ∧ K (R b 2) = 20 ∧ L (R b 2) = 200) ∧ (C + 96 < R b 3 ∧ K (R b 3) = 20 ∧ L (R b 3) = 200) ∧ (C + 96 < R b 4 ∧ K (R b 4) = 20 ∧ L (R b 4) = 200) ∧ (C + 96 < R b 5 ∧ K (R b 5) = 20 ∧ (∃ m, L (R b 5) = 80 * m ∧ 1 ≤ m ∧ m ≤ 2048)) ∧ (0 ≤ I b 6 ∧ I b 6 ≤ 16384 ∧ 5 * (I b 6).toNatClampNeg ≤ L (R b 5))) ∧
  (∀ x, K x = 11 → C + 96 < x ∧ C + 96 < R x 2 ∧ K (R x 2) = 20 ∧ L (R x 2) ≤ 50) ∧
  (∀ j, R (C + 15) j = 0 ∨ K (R (C + 15) j) = 1) ∧
  (∀ i : Int32, 0 ≤ i → i < I (C + 14) 4 → ¬ R (C + 15) i.toNatClampNeg = 0) ∧
  (∀ j, R (C + 16) j = 0 ∨ K (R (C + 16) j) = 3) ∧
  (∀ j, R (C + 8) j = 0 ∨ K (R (C + 8) j) = 11) ∧
  (∀ j, R (C + 23) j = 0 ∨ K (R (C + 23) j) = 1) ∧
  (∀ j, R (C + 28) j = 0 ∨ K (R (C + 28) j) = 1) ∧
  (∀ j, R (C + 38) j = 0 ∨ K (R (C + 38) j) = 1) ∧
  (R C 11 = 0 ∨ K (R C 11) = 1) ∧
  (∀ j, (I (C + 14) 5).toNatClampNeg ≤ j → R (C + 16) j = 0) ∧
  (∀ j, j < (I (C + 14) 5).toNatClampNeg → ¬ R (C + 16) j = 0)
section CM
variable {C : Nat} {K L : Nat → Nat} {I : Nat → Nat → Int32} {R : Nat → Nat → Nat}
theorem cT.s (h : cT C K L I R) : cS C K L R := h.1
theorem cT.g_now (h : cT C K L I R) : 0 ≤ I (C + 1) 6 ∧ I (C + 1) 6 ≤ 1600 := h.2.1
theorem cT.g_trips (h : cT C K L I R) : 0 ≤ I (C + 1) 5 ∧ I (C + 1) 5 ≤ 20 := h.2.2.1
theorem cT.g_texts (h : cT C K L I R) : 0 ≤ I (C + 7) 3 ∧ I (C + 7) 3 ≤ 20 := h.2.2.2.1
theorem cT.g_size (h : cT C K L I R) : 0 ≤ I (C + 11) 2 ∧ I (C + 11) 2 ≤ 50 := h.2.2.2.2.1
theorem cT.g_code (h : cT C K L I R) : 0 ≤ I (C + 11) 3 ∧ I (C + 11) 3 ≤ 50 := h.2.2.2.2.2.1
theorem cT.g_at (h : cT C K L I R) : 0 ≤ I (C + 11) 4 ∧ I (C + 11) 4 ≤ 50 := h.2.2.2.2.2.2.1
theorem cT.g_asks (h : cT C K L I R) : 0 ≤ I (C + 14) 4 ∧ I (C + 14) 4 ≤ 30 := h.2.2.2.2.2.2.2.1
theorem cT.g_benches (h : cT C K L I R) : 0 ≤ I (C + 14) 5 ∧ I (C + 14) 5 ≤ 6 := h.2.2.2.2.2.2.2.2.1
theorem cT.g_orderSize (h : cT C K L I R) : 0 ≤ I (C + 22) 6 ∧ I (C + 22) 6 ≤ 30 := h.2.2.2.2.2.2.2.2.2.1
theorem cT.g_passed (h : cT C K L I R) : 0 ≤ I (C + 22) 7 ∧ I (C + 22) 7 ≤ 30 := h.2.2.2.2.2.2.2.2.2.2.1
theorem cT.g_best (h : cT C K L I R) : 0 ≤ I (C + 27) 8 ∧ I (C + 27) 8 ≤ 4 := h.2.2.2.2.2.2.2.2.2.2.2.1
theorem cT.g_circle (h : cT C K L I R) : 0 ≤ I (C + 35) 7 ∧ I (C + 35) 7 ≤ 5 := h.2.2.2.2.2.2.2.2.2.2.2.2.1
theorem cT.g_row (h : cT C K L I R) : 0 ≤ I (C) 10 ∧ I (C) 10 ≤ 21 := h.2.2.2.2.2.2.2.2.2.2.2.2.2.1
theorem cT.g_rest (h : cT C K L I R) : 0 ≤ I (C + 14) 6 ∧ I (C + 14) 6 ≤ 3 := h.2.2.2.2.2.2.2.2.2.2.2.2.2.2.1
theorem cT.g_lost (h : cT C K L I R) : ∀ j, 0 ≤ I (C + 3) j ∧ I (C + 3) j ≤ 255 := h.2.2.2.2.2.2.2.2.2.2.2.2.2.2.2.1
theorem cT.g_spots (h : cT C K L I R) : ∀ j, 0 ≤ I (C + 31) j ∧ I (C + 31) j ≤ 48 := h.2.2.2.2.2.2.2.2.2.2.2.2.2.2.2.2.1
theorem cT.g_ask (h : cT C K L I R) : ∀ a, K a = 1 → C + 96 < a ∧ (1 ≤ I a 2 ∧ I a 2 ≤ 4) ∧ (0 ≤ I a 4 ∧ I a 4 ≤ 29) ∧ (0 ≤ I a 13 → 0 ≤ I a 14 ∧ I a 14 ≤ 199 ∧ I a 14 + I a 2 ≤ 200) := h.2.2.2.2.2.2.2.2.2.2.2.2.2.2.2.2.2.1
theorem cT.g_bnc (h : cT C K L I R) : ∀ b, K b = 3 → C + 96 < b ∧ (C + 96 < R b 2 ∧ K (R b 2) = 20 ∧ L (R b 2) = 200) ∧ (C + 96 < R b 3 ∧ K (R b 3) = 20 ∧ L (R b 3) = 200) ∧ (C + 96 < R b 4 ∧ K (R b 4) = 20 ∧ L (R b 4) = 200) ∧ (C + 96 < R b 5 ∧ K (R b 5) = 20 ∧ (∃ m, L (R b 5) = 80 * m ∧ 1 ≤ m ∧ m ≤ 2048)) ∧ (0 ≤ I b 6 ∧ I b 6 ≤ 16384 ∧ 5 * (I b 6).toNatClampNeg ≤ L (R b 5)) := h.2.2.2.2.2.2.2.2.2.2.2.2.2.2.2.2.2.2.1
theorem cT.g_txt (h : cT C K L I R) : ∀ x, K x = 11 → C + 96 < x ∧ C + 96 < R x 2 ∧ K (R x 2) = 20 ∧ L (R x 2) ≤ 50 := h.2.2.2.2.2.2.2.2.2.2.2.2.2.2.2.2.2.2.2.1
theorem cT.g_asksR (h : cT C K L I R) : ∀ j, R (C + 15) j = 0 ∨ K (R (C + 15) j) = 1 := h.2.2.2.2.2.2.2.2.2.2.2.2.2.2.2.2.2.2.2.2.1
theorem cT.g_asksN (h : cT C K L I R) : ∀ i : Int32, 0 ≤ i → i < I (C + 14) 4 → ¬ R (C + 15) i.toNatClampNeg = 0 := h.2.2.2.2.2.2.2.2.2.2.2.2.2.2.2.2.2.2.2.2.2.1
theorem cT.g_benchesR (h : cT C K L I R) : ∀ j, R (C + 16) j = 0 ∨ K (R (C + 16) j) = 3 := h.2.2.2.2.2.2.2.2.2.2.2.2.2.2.2.2.2.2.2.2.2.2.1
theorem cT.g_textsR (h : cT C K L I R) : ∀ j, R (C + 8) j = 0 ∨ K (R (C + 8) j) = 11 := h.2.2.2.2.2.2.2.2.2.2.2.2.2.2.2.2.2.2.2.2.2.2.2.1
theorem cT.g_orderR (h : cT C K L I R) : ∀ j, R (C + 23) j = 0 ∨ K (R (C + 23) j) = 1 := h.2.2.2.2.2.2.2.2.2.2.2.2.2.2.2.2.2.2.2.2.2.2.2.2.1
theorem cT.g_bestR (h : cT C K L I R) : ∀ j, R (C + 28) j = 0 ∨ K (R (C + 28) j) = 1 := h.2.2.2.2.2.2.2.2.2.2.2.2.2.2.2.2.2.2.2.2.2.2.2.2.2.1
theorem cT.g_ringR (h : cT C K L I R) : ∀ j, R (C + 38) j = 0 ∨ K (R (C + 38) j) = 1 := h.2.2.2.2.2.2.2.2.2.2.2.2.2.2.2.2.2.2.2.2.2.2.2.2.2.2.1
theorem cT.g_draft (h : cT C K L I R) : R C 11 = 0 ∨ K (R C 11) = 1 := h.2.2.2.2.2.2.2.2.2.2.2.2.2.2.2.2.2.2.2.2.2.2.2.2.2.2.2.1
theorem cT.g_benN (h : cT C K L I R) : ∀ j, (I (C + 14) 5).toNatClampNeg ≤ j → R (C + 16) j = 0 := h.2.2.2.2.2.2.2.2.2.2.2.2.2.2.2.2.2.2.2.2.2.2.2.2.2.2.2.2.1
theorem cT.g_benY (h : cT C K L I R) : ∀ j, j < (I (C + 14) 5).toNatClampNeg → ¬ R (C + 16) j = 0 := h.2.2.2.2.2.2.2.2.2.2.2.2.2.2.2.2.2.2.2.2.2.2.2.2.2.2.2.2.2
theorem cT_mk (s : cS C K L R) (g_now : 0 ≤ I (C + 1) 6 ∧ I (C + 1) 6 ≤ 1600) (g_trips : 0 ≤ I (C + 1) 5 ∧ I (C + 1) 5 ≤ 20) (g_texts : 0 ≤ I (C + 7) 3 ∧ I (C + 7) 3 ≤ 20) (g_size : 0 ≤ I (C + 11) 2 ∧ I (C + 11) 2 ≤ 50) (g_code : 0 ≤ I (C + 11) 3 ∧ I (C + 11) 3 ≤ 50) (g_at : 0 ≤ I (C + 11) 4 ∧ I (C + 11) 4 ≤ 50) (g_asks : 0 ≤ I (C + 14) 4 ∧ I (C + 14) 4 ≤ 30) (g_benches : 0 ≤ I (C + 14) 5 ∧ I (C + 14) 5 ≤ 6) (g_orderSize : 0 ≤ I (C + 22) 6 ∧ I (C + 22) 6 ≤ 30) (g_passed : 0 ≤ I (C + 22) 7 ∧ I (C + 22) 7 ≤ 30) (g_best : 0 ≤ I (C + 27) 8 ∧ I (C + 27) 8 ≤ 4) (g_circle : 0 ≤ I (C + 35) 7 ∧ I (C + 35) 7 ≤ 5) (g_row : 0 ≤ I (C) 10 ∧ I (C) 10 ≤ 21) (g_rest : 0 ≤ I (C + 14) 6 ∧ I (C + 14) 6 ≤ 3) (g_lost : ∀ j, 0 ≤ I (C + 3) j ∧ I (C + 3) j ≤ 255) (g_spots : ∀ j, 0 ≤ I (C + 31) j ∧ I (C + 31) j ≤ 48) (g_ask : ∀ a, K a = 1 → C + 96 < a ∧ (1 ≤ I a 2 ∧ I a 2 ≤ 4) ∧ (0 ≤ I a 4 ∧ I a 4 ≤ 29) ∧ (0 ≤ I a 13 → 0 ≤ I a 14 ∧ I a 14 ≤ 199 ∧ I a 14 + I a 2 ≤ 200)) (g_bnc : ∀ b, K b = 3 → C + 96 < b ∧ (C + 96 < R b 2 ∧ K (R b 2) = 20 ∧ L (R b 2) = 200) ∧ (C + 96 < R b 3 ∧ K (R b 3) = 20 ∧ L (R b 3) = 200) ∧ (C + 96 < R b 4 ∧ K (R b 4) = 20 ∧ L (R b 4) = 200) ∧ (C + 96 < R b 5 ∧ K (R b 5) = 20 ∧ (∃ m, L (R b 5) = 80 * m ∧ 1 ≤ m ∧ m ≤ 2048)) ∧ (0 ≤ I b 6 ∧ I b 6 ≤ 16384 ∧ 5 * (I b 6).toNatClampNeg ≤ L (R b 5))) (g_txt : ∀ x, K x = 11 → C + 96 < x ∧ C + 96 < R x 2 ∧ K (R x 2) = 20 ∧ L (R x 2) ≤ 50) (g_asksR : ∀ j, R (C + 15) j = 0 ∨ K (R (C + 15) j) = 1) (g_asksN : ∀ i : Int32, 0 ≤ i → i < I (C + 14) 4 → ¬ R (C + 15) i.toNatClampNeg = 0) (g_benchesR : ∀ j, R (C + 16) j = 0 ∨ K (R (C + 16) j) = 3) (g_textsR : ∀ j, R (C + 8) j = 0 ∨ K (R (C + 8) j) = 11) (g_orderR : ∀ j, R (C + 23) j = 0 ∨ K (R (C + 23) j) = 1) (g_bestR : ∀ j, R (C + 28) j = 0 ∨ K (R (C + 28) j) = 1) (g_ringR : ∀ j, R (C + 38) j = 0 ∨ K (R (C + 38) j) = 1) (g_draft : R C 11 = 0 ∨ K (R C 11) = 1) (g_benN : ∀ j, (I (C + 14) 5).toNatClampNeg ≤ j → R (C + 16) j = 0) (g_benY : ∀ j, j < (I (C + 14) 5).toNatClampNeg → ¬ R (C + 16) j = 0) : cT C K L I R := ⟨s, g_now, g_trips, g_texts, g_size, g_code, g_at, g_asks, g_benches, g_orderSize, g_passed, g_best, g_circle, g_row, g_rest, g_lost, g_spots, g_ask, g_bnc, g_txt, g_asksR, g_asksN, g_benchesR, g_textsR, g_orderR, g_bestR, g_ringR, g_draft, g_benN, g_benY⟩
end CM
section CR
variable {C : Nat} {K L : Nat → Nat} {R : Nat → Nat → Nat}
theorem iR_8 (h : cS C K L R) {k v : Nat} : cS C K L (a_ur R (C + 8) k v) := ⟨h.1, h.2.1, h.2.2.1, fun q hq => by
    have e : ¬ C + q.1 = C + 8 := by
      have : ∀ q ∈ c_rs, ¬ q.1 = 8 := by decide
      have := this q hq
      omega
    simp only [ur_ap, e, false_and, if_false]
    exact h.2.2.2 q hq⟩
theorem iR_15 (h : cS C K L R) {k v : Nat} : cS C K L (a_ur R (C + 15) k v) := ⟨h.1, h.2.1, h.2.2.1, fun q hq => by
    have e : ¬ C + q.1 = C + 15 := by
      have : ∀ q ∈ c_rs, ¬ q.1 = 15 := by decide
      have := this q hq
      omega
    simp only [ur_ap, e, false_and, if_false]
    exact h.2.2.2 q hq⟩
theorem iR_16 (h : cS C K L R) {k v : Nat} : cS C K L (a_ur R (C + 16) k v) := ⟨h.1, h.2.1, h.2.2.1, fun q hq => by
    have e : ¬ C + q.1 = C + 16 := by
      have : ∀ q ∈ c_rs, ¬ q.1 = 16 := by decide
      have := this q hq
      omega
    simp only [ur_ap, e, false_and, if_false]
    exact h.2.2.2 q hq⟩
theorem iR_23 (h : cS C K L R) {k v : Nat} : cS C K L (a_ur R (C + 23) k v) := ⟨h.1, h.2.1, h.2.2.1, fun q hq => by
    have e : ¬ C + q.1 = C + 23 := by
      have : ∀ q ∈ c_rs, ¬ q.1 = 23 := by decide
      have := this q hq
      omega
    simp only [ur_ap, e, false_and, if_false]
    exact h.2.2.2 q hq⟩
theorem iR_28 (h : cS C K L R) {k v : Nat} : cS C K L (a_ur R (C + 28) k v) := ⟨h.1, h.2.1, h.2.2.1, fun q hq => by
    have e : ¬ C + q.1 = C + 28 := by
      have : ∀ q ∈ c_rs, ¬ q.1 = 28 := by decide
      have := this q hq
      omega
    simp only [ur_ap, e, false_and, if_false]
    exact h.2.2.2 q hq⟩
theorem iR_38 (h : cS C K L R) {k v : Nat} : cS C K L (a_ur R (C + 38) k v) := ⟨h.1, h.2.1, h.2.2.1, fun q hq => by
    have e : ¬ C + q.1 = C + 38 := by
      have : ∀ q ∈ c_rs, ¬ q.1 = 38 := by decide
      have := this q hq
      omega
    simp only [ur_ap, e, false_and, if_false]
    exact h.2.2.2 q hq⟩
theorem iR_d (h : cS C K L R) {v : Nat} : cS C K L (a_ur R C 11 v) := ⟨h.1, h.2.1, h.2.2.1, fun q hq => by
    have e : ¬ (C + q.1 = C ∧ q.2.1 = 11) := by
      have : ∀ q ∈ c_rs, ¬ (q.1 = 0 ∧ q.2.1 = 11) := by decide
      have := this q hq
      omega
    simp only [ur_ap, e, if_false]
    exact h.2.2.2 q hq⟩
end CR
section CT
variable {C : Nat} {K L : Nat → Nat} {I J : Nat → Nat → Int32} {R : Nat → Nat → Nat}
theorem cc_ne (a b : Nat) : (C + a = C + b) = (a = b) := by simp
theorem cc_n0 (b : Nat) : (C = C + b) = (b = 0) := by simp
theorem cc_0n (b : Nat) : (C + b = C) = (b = 0) := by simp
theorem sT_Beam_now (h : cT C K L J R) {v : Int32} (hv : 0 ≤ v ∧ v ≤ 1600) : cT C K L (a_ui J (C + 1) 6 v) R := cT_mk
  (s := h.s)
  (g_now := by simp only [ui_ap, cc_ne, cc_n0, cc_0n, Nat.reduceEqDiff, reduceCtorEq, false_and, and_false, and_self, true_and, if_false, if_true]; exact hv)
  (g_trips := by simp only [ui_ap, cc_ne, cc_n0, cc_0n, Nat.reduceEqDiff, reduceCtorEq, false_and, and_false, and_self, true_and, if_false, if_true]; exact h.g_trips)
  (g_texts := by simp only [ui_ap, cc_ne, cc_n0, cc_0n, Nat.reduceEqDiff, reduceCtorEq, false_and, and_false, and_self, true_and, if_false, if_true]; exact h.g_texts)
  (g_size := by simp only [ui_ap, cc_ne, cc_n0, cc_0n, Nat.reduceEqDiff, reduceCtorEq, false_and, and_false, and_self, true_and, if_false, if_true]; exact h.g_size)
  (g_code := by simp only [ui_ap, cc_ne, cc_n0, cc_0n, Nat.reduceEqDiff, reduceCtorEq, false_and, and_false, and_self, true_and, if_false, if_true]; exact h.g_code)
  (g_at := by simp only [ui_ap, cc_ne, cc_n0, cc_0n, Nat.reduceEqDiff, reduceCtorEq, false_and, and_false, and_self, true_and, if_false, if_true]; exact h.g_at)
  (g_asks := by simp only [ui_ap, cc_ne, cc_n0, cc_0n, Nat.reduceEqDiff, reduceCtorEq, false_and, and_false, and_self, true_and, if_false, if_true]; exact h.g_asks)
  (g_benches := by simp only [ui_ap, cc_ne, cc_n0, cc_0n, Nat.reduceEqDiff, reduceCtorEq, false_and, and_false, and_self, true_and, if_false, if_true]; exact h.g_benches)
  (g_orderSize := by simp only [ui_ap, cc_ne, cc_n0, cc_0n, Nat.reduceEqDiff, reduceCtorEq, false_and, and_false, and_self, true_and, if_false, if_true]; exact h.g_orderSize)
  (g_passed := by simp only [ui_ap, cc_ne, cc_n0, cc_0n, Nat.reduceEqDiff, reduceCtorEq, false_and, and_false, and_self, true_and, if_false, if_true]; exact h.g_passed)
  (g_best := by simp only [ui_ap, cc_ne, cc_n0, cc_0n, Nat.reduceEqDiff, reduceCtorEq, false_and, and_false, and_self, true_and, if_false, if_true]; exact h.g_best)
  (g_circle := by simp only [ui_ap, cc_ne, cc_n0, cc_0n, Nat.reduceEqDiff, reduceCtorEq, false_and, and_false, and_self, true_and, if_false, if_true]; exact h.g_circle)
  (g_row := by simp only [ui_ap, cc_ne, cc_n0, cc_0n, Nat.reduceEqDiff, reduceCtorEq, false_and, and_false, and_self, true_and, if_false, if_true]; exact h.g_row)
  (g_rest := by simp only [ui_ap, cc_ne, cc_n0, cc_0n, Nat.reduceEqDiff, reduceCtorEq, false_and, and_false, and_self, true_and, if_false, if_true]; exact h.g_rest)
  (g_lost := by simp only [ui_ap, cc_ne, cc_n0, cc_0n, Nat.reduceEqDiff, reduceCtorEq, false_and, and_false, and_self, true_and, if_false, if_true]; exact h.g_lost)
  (g_spots := by simp only [ui_ap, cc_ne, cc_n0, cc_0n, Nat.reduceEqDiff, reduceCtorEq, false_and, and_false, and_self, true_and, if_false, if_true]; exact h.g_spots)
  (g_ask := fun a ha => by
    have q := h.g_ask a ha
    have e : ¬ a = C + 1 := by omega
    simp only [ui_ap, e, false_and, if_false]
    exact q)
  (g_bnc := fun b hb => by
    have q := h.g_bnc b hb
    have e : ¬ b = C + 1 := by omega
    simp only [ui_ap, e, false_and, if_false]
    exact q)
  (g_txt := h.g_txt)
  (g_asksR := h.g_asksR)
  (g_asksN := by simp only [ui_ap, cc_ne, cc_n0, cc_0n, Nat.reduceEqDiff, reduceCtorEq, false_and, and_false, and_self, true_and, if_false, if_true]; exact h.g_asksN)
  (g_benchesR := h.g_benchesR)
  (g_textsR := h.g_textsR)
  (g_orderR := h.g_orderR)
  (g_bestR := h.g_bestR)
  (g_ringR := h.g_ringR)
  (g_draft := h.g_draft)
  (g_benN := by simp only [ui_ap, cc_ne, cc_n0, cc_0n, Nat.reduceEqDiff, reduceCtorEq, false_and, and_false, and_self, true_and, if_false, if_true]; exact h.g_benN)
  (g_benY := by simp only [ui_ap, cc_ne, cc_n0, cc_0n, Nat.reduceEqDiff, reduceCtorEq, false_and, and_false, and_self, true_and, if_false, if_true]; exact h.g_benY)
theorem sT_Beam_trips (h : cT C K L J R) {v : Int32} (hv : 0 ≤ v ∧ v ≤ 20) : cT C K L (a_ui J (C + 1) 5 v) R := cT_mk
  (s := h.s)
  (g_now := by simp only [ui_ap, cc_ne, cc_n0, cc_0n, Nat.reduceEqDiff, reduceCtorEq, false_and, and_false, and_self, true_and, if_false, if_true]; exact h.g_now)
  (g_trips := by simp only [ui_ap, cc_ne, cc_n0, cc_0n, Nat.reduceEqDiff, reduceCtorEq, false_and, and_false, and_self, true_and, if_false, if_true]; exact hv)
  (g_texts := by simp only [ui_ap, cc_ne, cc_n0, cc_0n, Nat.reduceEqDiff, reduceCtorEq, false_and, and_false, and_self, true_and, if_false, if_true]; exact h.g_texts)
  (g_size := by simp only [ui_ap, cc_ne, cc_n0, cc_0n, Nat.reduceEqDiff, reduceCtorEq, false_and, and_false, and_self, true_and, if_false, if_true]; exact h.g_size)
  (g_code := by simp only [ui_ap, cc_ne, cc_n0, cc_0n, Nat.reduceEqDiff, reduceCtorEq, false_and, and_false, and_self, true_and, if_false, if_true]; exact h.g_code)
  (g_at := by simp only [ui_ap, cc_ne, cc_n0, cc_0n, Nat.reduceEqDiff, reduceCtorEq, false_and, and_false, and_self, true_and, if_false, if_true]; exact h.g_at)
  (g_asks := by simp only [ui_ap, cc_ne, cc_n0, cc_0n, Nat.reduceEqDiff, reduceCtorEq, false_and, and_false, and_self, true_and, if_false, if_true]; exact h.g_asks)
  (g_benches := by simp only [ui_ap, cc_ne, cc_n0, cc_0n, Nat.reduceEqDiff, reduceCtorEq, false_and, and_false, and_self, true_and, if_false, if_true]; exact h.g_benches)
  (g_orderSize := by simp only [ui_ap, cc_ne, cc_n0, cc_0n, Nat.reduceEqDiff, reduceCtorEq, false_and, and_false, and_self, true_and, if_false, if_true]; exact h.g_orderSize)
  (g_passed := by simp only [ui_ap, cc_ne, cc_n0, cc_0n, Nat.reduceEqDiff, reduceCtorEq, false_and, and_false, and_self, true_and, if_false, if_true]; exact h.g_passed)
  (g_best := by simp only [ui_ap, cc_ne, cc_n0, cc_0n, Nat.reduceEqDiff, reduceCtorEq, false_and, and_false, and_self, true_and, if_false, if_true]; exact h.g_best)
  (g_circle := by simp only [ui_ap, cc_ne, cc_n0, cc_0n, Nat.reduceEqDiff, reduceCtorEq, false_and, and_false, and_self, true_and, if_false, if_true]; exact h.g_circle)
  (g_row := by simp only [ui_ap, cc_ne, cc_n0, cc_0n, Nat.reduceEqDiff, reduceCtorEq, false_and, and_false, and_self, true_and, if_false, if_true]; exact h.g_row)
  (g_rest := by simp only [ui_ap, cc_ne, cc_n0, cc_0n, Nat.reduceEqDiff, reduceCtorEq, false_and, and_false, and_self, true_and, if_false, if_true]; exact h.g_rest)
  (g_lost := by simp only [ui_ap, cc_ne, cc_n0, cc_0n, Nat.reduceEqDiff, reduceCtorEq, false_and, and_false, and_self, true_and, if_false, if_true]; exact h.g_lost)
  (g_spots := by simp only [ui_ap, cc_ne, cc_n0, cc_0n, Nat.reduceEqDiff, reduceCtorEq, false_and, and_false, and_self, true_and, if_false, if_true]; exact h.g_spots)
  (g_ask := fun a ha => by
    have q := h.g_ask a ha
    have e : ¬ a = C + 1 := by omega
    simp only [ui_ap, e, false_and, if_false]
    exact q)
  (g_bnc := fun b hb => by
    have q := h.g_bnc b hb
    have e : ¬ b = C + 1 := by omega
    simp only [ui_ap, e, false_and, if_false]
    exact q)
  (g_txt := h.g_txt)
  (g_asksR := h.g_asksR)
  (g_asksN := by simp only [ui_ap, cc_ne, cc_n0, cc_0n, Nat.reduceEqDiff, reduceCtorEq, false_and, and_false, and_self, true_and, if_false, if_true]; exact h.g_asksN)
  (g_benchesR := h.g_benchesR)
  (g_textsR := h.g_textsR)
  (g_orderR := h.g_orderR)
  (g_bestR := h.g_bestR)
  (g_ringR := h.g_ringR)
  (g_draft := h.g_draft)
  (g_benN := by simp only [ui_ap, cc_ne, cc_n0, cc_0n, Nat.reduceEqDiff, reduceCtorEq, false_and, and_false, and_self, true_and, if_false, if_true]; exact h.g_benN)
  (g_benY := by simp only [ui_ap, cc_ne, cc_n0, cc_0n, Nat.reduceEqDiff, reduceCtorEq, false_and, and_false, and_self, true_and, if_false, if_true]; exact h.g_benY)
theorem sT_Rules_count (h : cT C K L J R) {v : Int32} (hv : 0 ≤ v ∧ v ≤ 20) : cT C K L (a_ui J (C + 7) 3 v) R := cT_mk
  (s := h.s)
  (g_now := by simp only [ui_ap, cc_ne, cc_n0, cc_0n, Nat.reduceEqDiff, reduceCtorEq, false_and, and_false, and_self, true_and, if_false, if_true]; exact h.g_now)
  (g_trips := by simp only [ui_ap, cc_ne, cc_n0, cc_0n, Nat.reduceEqDiff, reduceCtorEq, false_and, and_false, and_self, true_and, if_false, if_true]; exact h.g_trips)
  (g_texts := by simp only [ui_ap, cc_ne, cc_n0, cc_0n, Nat.reduceEqDiff, reduceCtorEq, false_and, and_false, and_self, true_and, if_false, if_true]; exact hv)
  (g_size := by simp only [ui_ap, cc_ne, cc_n0, cc_0n, Nat.reduceEqDiff, reduceCtorEq, false_and, and_false, and_self, true_and, if_false, if_true]; exact h.g_size)
  (g_code := by simp only [ui_ap, cc_ne, cc_n0, cc_0n, Nat.reduceEqDiff, reduceCtorEq, false_and, and_false, and_self, true_and, if_false, if_true]; exact h.g_code)
  (g_at := by simp only [ui_ap, cc_ne, cc_n0, cc_0n, Nat.reduceEqDiff, reduceCtorEq, false_and, and_false, and_self, true_and, if_false, if_true]; exact h.g_at)
  (g_asks := by simp only [ui_ap, cc_ne, cc_n0, cc_0n, Nat.reduceEqDiff, reduceCtorEq, false_and, and_false, and_self, true_and, if_false, if_true]; exact h.g_asks)
  (g_benches := by simp only [ui_ap, cc_ne, cc_n0, cc_0n, Nat.reduceEqDiff, reduceCtorEq, false_and, and_false, and_self, true_and, if_false, if_true]; exact h.g_benches)
  (g_orderSize := by simp only [ui_ap, cc_ne, cc_n0, cc_0n, Nat.reduceEqDiff, reduceCtorEq, false_and, and_false, and_self, true_and, if_false, if_true]; exact h.g_orderSize)
  (g_passed := by simp only [ui_ap, cc_ne, cc_n0, cc_0n, Nat.reduceEqDiff, reduceCtorEq, false_and, and_false, and_self, true_and, if_false, if_true]; exact h.g_passed)
  (g_best := by simp only [ui_ap, cc_ne, cc_n0, cc_0n, Nat.reduceEqDiff, reduceCtorEq, false_and, and_false, and_self, true_and, if_false, if_true]; exact h.g_best)
  (g_circle := by simp only [ui_ap, cc_ne, cc_n0, cc_0n, Nat.reduceEqDiff, reduceCtorEq, false_and, and_false, and_self, true_and, if_false, if_true]; exact h.g_circle)
  (g_row := by simp only [ui_ap, cc_ne, cc_n0, cc_0n, Nat.reduceEqDiff, reduceCtorEq, false_and, and_false, and_self, true_and, if_false, if_true]; exact h.g_row)
  (g_rest := by simp only [ui_ap, cc_ne, cc_n0, cc_0n, Nat.reduceEqDiff, reduceCtorEq, false_and, and_false, and_self, true_and, if_false, if_true]; exact h.g_rest)
  (g_lost := by simp only [ui_ap, cc_ne, cc_n0, cc_0n, Nat.reduceEqDiff, reduceCtorEq, false_and, and_false, and_self, true_and, if_false, if_true]; exact h.g_lost)
  (g_spots := by simp only [ui_ap, cc_ne, cc_n0, cc_0n, Nat.reduceEqDiff, reduceCtorEq, false_and, and_false, and_self, true_and, if_false, if_true]; exact h.g_spots)
  (g_ask := fun a ha => by
    have q := h.g_ask a ha
    have e : ¬ a = C + 7 := by omega
    simp only [ui_ap, e, false_and, if_false]
    exact q)
  (g_bnc := fun b hb => by
    have q := h.g_bnc b hb
    have e : ¬ b = C + 7 := by omega
    simp only [ui_ap, e, false_and, if_false]
    exact q)
  (g_txt := h.g_txt)
  (g_asksR := h.g_asksR)
  (g_asksN := by simp only [ui_ap, cc_ne, cc_n0, cc_0n, Nat.reduceEqDiff, reduceCtorEq, false_and, and_false, and_self, true_and, if_false, if_true]; exact h.g_asksN)
  (g_benchesR := h.g_benchesR)
  (g_textsR := h.g_textsR)
  (g_orderR := h.g_orderR)
  (g_bestR := h.g_bestR)
  (g_ringR := h.g_ringR)
  (g_draft := h.g_draft)
  (g_benN := by simp only [ui_ap, cc_ne, cc_n0, cc_0n, Nat.reduceEqDiff, reduceCtorEq, false_and, and_false, and_self, true_and, if_false, if_true]; exact h.g_benN)
  (g_benY := by simp only [ui_ap, cc_ne, cc_n0, cc_0n, Nat.reduceEqDiff, reduceCtorEq, false_and, and_false, and_self, true_and, if_false, if_true]; exact h.g_benY)
theorem sT_Tape_size (h : cT C K L J R) {v : Int32} (hv : 0 ≤ v ∧ v ≤ 50) : cT C K L (a_ui J (C + 11) 2 v) R := cT_mk
  (s := h.s)
  (g_now := by simp only [ui_ap, cc_ne, cc_n0, cc_0n, Nat.reduceEqDiff, reduceCtorEq, false_and, and_false, and_self, true_and, if_false, if_true]; exact h.g_now)
  (g_trips := by simp only [ui_ap, cc_ne, cc_n0, cc_0n, Nat.reduceEqDiff, reduceCtorEq, false_and, and_false, and_self, true_and, if_false, if_true]; exact h.g_trips)
  (g_texts := by simp only [ui_ap, cc_ne, cc_n0, cc_0n, Nat.reduceEqDiff, reduceCtorEq, false_and, and_false, and_self, true_and, if_false, if_true]; exact h.g_texts)
  (g_size := by simp only [ui_ap, cc_ne, cc_n0, cc_0n, Nat.reduceEqDiff, reduceCtorEq, false_and, and_false, and_self, true_and, if_false, if_true]; exact hv)
  (g_code := by simp only [ui_ap, cc_ne, cc_n0, cc_0n, Nat.reduceEqDiff, reduceCtorEq, false_and, and_false, and_self, true_and, if_false, if_true]; exact h.g_code)
  (g_at := by simp only [ui_ap, cc_ne, cc_n0, cc_0n, Nat.reduceEqDiff, reduceCtorEq, false_and, and_false, and_self, true_and, if_false, if_true]; exact h.g_at)
  (g_asks := by simp only [ui_ap, cc_ne, cc_n0, cc_0n, Nat.reduceEqDiff, reduceCtorEq, false_and, and_false, and_self, true_and, if_false, if_true]; exact h.g_asks)
  (g_benches := by simp only [ui_ap, cc_ne, cc_n0, cc_0n, Nat.reduceEqDiff, reduceCtorEq, false_and, and_false, and_self, true_and, if_false, if_true]; exact h.g_benches)
  (g_orderSize := by simp only [ui_ap, cc_ne, cc_n0, cc_0n, Nat.reduceEqDiff, reduceCtorEq, false_and, and_false, and_self, true_and, if_false, if_true]; exact h.g_orderSize)
  (g_passed := by simp only [ui_ap, cc_ne, cc_n0, cc_0n, Nat.reduceEqDiff, reduceCtorEq, false_and, and_false, and_self, true_and, if_false, if_true]; exact h.g_passed)
  (g_best := by simp only [ui_ap, cc_ne, cc_n0, cc_0n, Nat.reduceEqDiff, reduceCtorEq, false_and, and_false, and_self, true_and, if_false, if_true]; exact h.g_best)
  (g_circle := by simp only [ui_ap, cc_ne, cc_n0, cc_0n, Nat.reduceEqDiff, reduceCtorEq, false_and, and_false, and_self, true_and, if_false, if_true]; exact h.g_circle)
  (g_row := by simp only [ui_ap, cc_ne, cc_n0, cc_0n, Nat.reduceEqDiff, reduceCtorEq, false_and, and_false, and_self, true_and, if_false, if_true]; exact h.g_row)
  (g_rest := by simp only [ui_ap, cc_ne, cc_n0, cc_0n, Nat.reduceEqDiff, reduceCtorEq, false_and, and_false, and_self, true_and, if_false, if_true]; exact h.g_rest)
  (g_lost := by simp only [ui_ap, cc_ne, cc_n0, cc_0n, Nat.reduceEqDiff, reduceCtorEq, false_and, and_false, and_self, true_and, if_false, if_true]; exact h.g_lost)
  (g_spots := by simp only [ui_ap, cc_ne, cc_n0, cc_0n, Nat.reduceEqDiff, reduceCtorEq, false_and, and_false, and_self, true_and, if_false, if_true]; exact h.g_spots)
  (g_ask := fun a ha => by
    have q := h.g_ask a ha
    have e : ¬ a = C + 11 := by omega
    simp only [ui_ap, e, false_and, if_false]
    exact q)
  (g_bnc := fun b hb => by
    have q := h.g_bnc b hb
    have e : ¬ b = C + 11 := by omega
    simp only [ui_ap, e, false_and, if_false]
    exact q)
  (g_txt := h.g_txt)
  (g_asksR := h.g_asksR)
  (g_asksN := by simp only [ui_ap, cc_ne, cc_n0, cc_0n, Nat.reduceEqDiff, reduceCtorEq, false_and, and_false, and_self, true_and, if_false, if_true]; exact h.g_asksN)
  (g_benchesR := h.g_benchesR)
  (g_textsR := h.g_textsR)
  (g_orderR := h.g_orderR)
  (g_bestR := h.g_bestR)
  (g_ringR := h.g_ringR)
  (g_draft := h.g_draft)
  (g_benN := by simp only [ui_ap, cc_ne, cc_n0, cc_0n, Nat.reduceEqDiff, reduceCtorEq, false_and, and_false, and_self, true_and, if_false, if_true]; exact h.g_benN)
  (g_benY := by simp only [ui_ap, cc_ne, cc_n0, cc_0n, Nat.reduceEqDiff, reduceCtorEq, false_and, and_false, and_self, true_and, if_false, if_true]; exact h.g_benY)
theorem sT_Tape_codeSize (h : cT C K L J R) {v : Int32} (hv : 0 ≤ v ∧ v ≤ 50) : cT C K L (a_ui J (C + 11) 3 v) R := cT_mk
  (s := h.s)
  (g_now := by simp only [ui_ap, cc_ne, cc_n0, cc_0n, Nat.reduceEqDiff, reduceCtorEq, false_and, and_false, and_self, true_and, if_false, if_true]; exact h.g_now)
  (g_trips := by simp only [ui_ap, cc_ne, cc_n0, cc_0n, Nat.reduceEqDiff, reduceCtorEq, false_and, and_false, and_self, true_and, if_false, if_true]; exact h.g_trips)
  (g_texts := by simp only [ui_ap, cc_ne, cc_n0, cc_0n, Nat.reduceEqDiff, reduceCtorEq, false_and, and_false, and_self, true_and, if_false, if_true]; exact h.g_texts)
  (g_size := by simp only [ui_ap, cc_ne, cc_n0, cc_0n, Nat.reduceEqDiff, reduceCtorEq, false_and, and_false, and_self, true_and, if_false, if_true]; exact h.g_size)
  (g_code := by simp only [ui_ap, cc_ne, cc_n0, cc_0n, Nat.reduceEqDiff, reduceCtorEq, false_and, and_false, and_self, true_and, if_false, if_true]; exact hv)
  (g_at := by simp only [ui_ap, cc_ne, cc_n0, cc_0n, Nat.reduceEqDiff, reduceCtorEq, false_and, and_false, and_self, true_and, if_false, if_true]; exact h.g_at)
  (g_asks := by simp only [ui_ap, cc_ne, cc_n0, cc_0n, Nat.reduceEqDiff, reduceCtorEq, false_and, and_false, and_self, true_and, if_false, if_true]; exact h.g_asks)
  (g_benches := by simp only [ui_ap, cc_ne, cc_n0, cc_0n, Nat.reduceEqDiff, reduceCtorEq, false_and, and_false, and_self, true_and, if_false, if_true]; exact h.g_benches)
  (g_orderSize := by simp only [ui_ap, cc_ne, cc_n0, cc_0n, Nat.reduceEqDiff, reduceCtorEq, false_and, and_false, and_self, true_and, if_false, if_true]; exact h.g_orderSize)
  (g_passed := by simp only [ui_ap, cc_ne, cc_n0, cc_0n, Nat.reduceEqDiff, reduceCtorEq, false_and, and_false, and_self, true_and, if_false, if_true]; exact h.g_passed)
  (g_best := by simp only [ui_ap, cc_ne, cc_n0, cc_0n, Nat.reduceEqDiff, reduceCtorEq, false_and, and_false, and_self, true_and, if_false, if_true]; exact h.g_best)
  (g_circle := by simp only [ui_ap, cc_ne, cc_n0, cc_0n, Nat.reduceEqDiff, reduceCtorEq, false_and, and_false, and_self, true_and, if_false, if_true]; exact h.g_circle)
  (g_row := by simp only [ui_ap, cc_ne, cc_n0, cc_0n, Nat.reduceEqDiff, reduceCtorEq, false_and, and_false, and_self, true_and, if_false, if_true]; exact h.g_row)
  (g_rest := by simp only [ui_ap, cc_ne, cc_n0, cc_0n, Nat.reduceEqDiff, reduceCtorEq, false_and, and_false, and_self, true_and, if_false, if_true]; exact h.g_rest)
  (g_lost := by simp only [ui_ap, cc_ne, cc_n0, cc_0n, Nat.reduceEqDiff, reduceCtorEq, false_and, and_false, and_self, true_and, if_false, if_true]; exact h.g_lost)
  (g_spots := by simp only [ui_ap, cc_ne, cc_n0, cc_0n, Nat.reduceEqDiff, reduceCtorEq, false_and, and_false, and_self, true_and, if_false, if_true]; exact h.g_spots)
  (g_ask := fun a ha => by
    have q := h.g_ask a ha
    have e : ¬ a = C + 11 := by omega
    simp only [ui_ap, e, false_and, if_false]
    exact q)
  (g_bnc := fun b hb => by
    have q := h.g_bnc b hb
    have e : ¬ b = C + 11 := by omega
    simp only [ui_ap, e, false_and, if_false]
    exact q)
  (g_txt := h.g_txt)
  (g_asksR := h.g_asksR)
  (g_asksN := by simp only [ui_ap, cc_ne, cc_n0, cc_0n, Nat.reduceEqDiff, reduceCtorEq, false_and, and_false, and_self, true_and, if_false, if_true]; exact h.g_asksN)
  (g_benchesR := h.g_benchesR)
  (g_textsR := h.g_textsR)
  (g_orderR := h.g_orderR)
  (g_bestR := h.g_bestR)
  (g_ringR := h.g_ringR)
  (g_draft := h.g_draft)
  (g_benN := by simp only [ui_ap, cc_ne, cc_n0, cc_0n, Nat.reduceEqDiff, reduceCtorEq, false_and, and_false, and_self, true_and, if_false, if_true]; exact h.g_benN)
  (g_benY := by simp only [ui_ap, cc_ne, cc_n0, cc_0n, Nat.reduceEqDiff, reduceCtorEq, false_and, and_false, and_self, true_and, if_false, if_true]; exact h.g_benY)
theorem sT_Tape_at (h : cT C K L J R) {v : Int32} (hv : 0 ≤ v ∧ v ≤ 50) : cT C K L (a_ui J (C + 11) 4 v) R := cT_mk
  (s := h.s)
  (g_now := by simp only [ui_ap, cc_ne, cc_n0, cc_0n, Nat.reduceEqDiff, reduceCtorEq, false_and, and_false, and_self, true_and, if_false, if_true]; exact h.g_now)
  (g_trips := by simp only [ui_ap, cc_ne, cc_n0, cc_0n, Nat.reduceEqDiff, reduceCtorEq, false_and, and_false, and_self, true_and, if_false, if_true]; exact h.g_trips)
  (g_texts := by simp only [ui_ap, cc_ne, cc_n0, cc_0n, Nat.reduceEqDiff, reduceCtorEq, false_and, and_false, and_self, true_and, if_false, if_true]; exact h.g_texts)
  (g_size := by simp only [ui_ap, cc_ne, cc_n0, cc_0n, Nat.reduceEqDiff, reduceCtorEq, false_and, and_false, and_self, true_and, if_false, if_true]; exact h.g_size)
  (g_code := by simp only [ui_ap, cc_ne, cc_n0, cc_0n, Nat.reduceEqDiff, reduceCtorEq, false_and, and_false, and_self, true_and, if_false, if_true]; exact h.g_code)
  (g_at := by simp only [ui_ap, cc_ne, cc_n0, cc_0n, Nat.reduceEqDiff, reduceCtorEq, false_and, and_false, and_self, true_and, if_false, if_true]; exact hv)
  (g_asks := by simp only [ui_ap, cc_ne, cc_n0, cc_0n, Nat.reduceEqDiff, reduceCtorEq, false_and, and_false, and_self, true_and, if_false, if_true]; exact h.g_asks)
  (g_benches := by simp only [ui_ap, cc_ne, cc_n0, cc_0n, Nat.reduceEqDiff, reduceCtorEq, false_and, and_false, and_self, true_and, if_false, if_true]; exact h.g_benches)
  (g_orderSize := by simp only [ui_ap, cc_ne, cc_n0, cc_0n, Nat.reduceEqDiff, reduceCtorEq, false_and, and_false, and_self, true_and, if_false, if_true]; exact h.g_orderSize)
  (g_passed := by simp only [ui_ap, cc_ne, cc_n0, cc_0n, Nat.reduceEqDiff, reduceCtorEq, false_and, and_false, and_self, true_and, if_false, if_true]; exact h.g_passed)
  (g_best := by simp only [ui_ap, cc_ne, cc_n0, cc_0n, Nat.reduceEqDiff, reduceCtorEq, false_and, and_false, and_self, true_and, if_false, if_true]; exact h.g_best)
  (g_circle := by simp only [ui_ap, cc_ne, cc_n0, cc_0n, Nat.reduceEqDiff, reduceCtorEq, false_and, and_false, and_self, true_and, if_false, if_true]; exact h.g_circle)
  (g_row := by simp only [ui_ap, cc_ne, cc_n0, cc_0n, Nat.reduceEqDiff, reduceCtorEq, false_and, and_false, and_self, true_and, if_false, if_true]; exact h.g_row)
  (g_rest := by simp only [ui_ap, cc_ne, cc_n0, cc_0n, Nat.reduceEqDiff, reduceCtorEq, false_and, and_false, and_self, true_and, if_false, if_true]; exact h.g_rest)
  (g_lost := by simp only [ui_ap, cc_ne, cc_n0, cc_0n, Nat.reduceEqDiff, reduceCtorEq, false_and, and_false, and_self, true_and, if_false, if_true]; exact h.g_lost)
  (g_spots := by simp only [ui_ap, cc_ne, cc_n0, cc_0n, Nat.reduceEqDiff, reduceCtorEq, false_and, and_false, and_self, true_and, if_false, if_true]; exact h.g_spots)
  (g_ask := fun a ha => by
    have q := h.g_ask a ha
    have e : ¬ a = C + 11 := by omega
    simp only [ui_ap, e, false_and, if_false]
    exact q)
  (g_bnc := fun b hb => by
    have q := h.g_bnc b hb
    have e : ¬ b = C + 11 := by omega
    simp only [ui_ap, e, false_and, if_false]
    exact q)
  (g_txt := h.g_txt)
  (g_asksR := h.g_asksR)
  (g_asksN := by simp only [ui_ap, cc_ne, cc_n0, cc_0n, Nat.reduceEqDiff, reduceCtorEq, false_and, and_false, and_self, true_and, if_false, if_true]; exact h.g_asksN)
  (g_benchesR := h.g_benchesR)
  (g_textsR := h.g_textsR)
  (g_orderR := h.g_orderR)
  (g_bestR := h.g_bestR)
  (g_ringR := h.g_ringR)
  (g_draft := h.g_draft)
  (g_benN := by simp only [ui_ap, cc_ne, cc_n0, cc_0n, Nat.reduceEqDiff, reduceCtorEq, false_and, and_false, and_self, true_and, if_false, if_true]; exact h.g_benN)
  (g_benY := by simp only [ui_ap, cc_ne, cc_n0, cc_0n, Nat.reduceEqDiff, reduceCtorEq, false_and, and_false, and_self, true_and, if_false, if_true]; exact h.g_benY)
theorem sT_Planner_orderSize (h : cT C K L J R) {v : Int32} (hv : 0 ≤ v ∧ v ≤ 30) : cT C K L (a_ui J (C + 22) 6 v) R := cT_mk
  (s := h.s)
  (g_now := by simp only [ui_ap, cc_ne, cc_n0, cc_0n, Nat.reduceEqDiff, reduceCtorEq, false_and, and_false, and_self, true_and, if_false, if_true]; exact h.g_now)
  (g_trips := by simp only [ui_ap, cc_ne, cc_n0, cc_0n, Nat.reduceEqDiff, reduceCtorEq, false_and, and_false, and_self, true_and, if_false, if_true]; exact h.g_trips)
  (g_texts := by simp only [ui_ap, cc_ne, cc_n0, cc_0n, Nat.reduceEqDiff, reduceCtorEq, false_and, and_false, and_self, true_and, if_false, if_true]; exact h.g_texts)
  (g_size := by simp only [ui_ap, cc_ne, cc_n0, cc_0n, Nat.reduceEqDiff, reduceCtorEq, false_and, and_false, and_self, true_and, if_false, if_true]; exact h.g_size)
  (g_code := by simp only [ui_ap, cc_ne, cc_n0, cc_0n, Nat.reduceEqDiff, reduceCtorEq, false_and, and_false, and_self, true_and, if_false, if_true]; exact h.g_code)
  (g_at := by simp only [ui_ap, cc_ne, cc_n0, cc_0n, Nat.reduceEqDiff, reduceCtorEq, false_and, and_false, and_self, true_and, if_false, if_true]; exact h.g_at)
  (g_asks := by simp only [ui_ap, cc_ne, cc_n0, cc_0n, Nat.reduceEqDiff, reduceCtorEq, false_and, and_false, and_self, true_and, if_false, if_true]; exact h.g_asks)
  (g_benches := by simp only [ui_ap, cc_ne, cc_n0, cc_0n, Nat.reduceEqDiff, reduceCtorEq, false_and, and_false, and_self, true_and, if_false, if_true]; exact h.g_benches)
  (g_orderSize := by simp only [ui_ap, cc_ne, cc_n0, cc_0n, Nat.reduceEqDiff, reduceCtorEq, false_and, and_false, and_self, true_and, if_false, if_true]; exact hv)
  (g_passed := by simp only [ui_ap, cc_ne, cc_n0, cc_0n, Nat.reduceEqDiff, reduceCtorEq, false_and, and_false, and_self, true_and, if_false, if_true]; exact h.g_passed)
  (g_best := by simp only [ui_ap, cc_ne, cc_n0, cc_0n, Nat.reduceEqDiff, reduceCtorEq, false_and, and_false, and_self, true_and, if_false, if_true]; exact h.g_best)
  (g_circle := by simp only [ui_ap, cc_ne, cc_n0, cc_0n, Nat.reduceEqDiff, reduceCtorEq, false_and, and_false, and_self, true_and, if_false, if_true]; exact h.g_circle)
  (g_row := by simp only [ui_ap, cc_ne, cc_n0, cc_0n, Nat.reduceEqDiff, reduceCtorEq, false_and, and_false, and_self, true_and, if_false, if_true]; exact h.g_row)
  (g_rest := by simp only [ui_ap, cc_ne, cc_n0, cc_0n, Nat.reduceEqDiff, reduceCtorEq, false_and, and_false, and_self, true_and, if_false, if_true]; exact h.g_rest)
  (g_lost := by simp only [ui_ap, cc_ne, cc_n0, cc_0n, Nat.reduceEqDiff, reduceCtorEq, false_and, and_false, and_self, true_and, if_false, if_true]; exact h.g_lost)
  (g_spots := by simp only [ui_ap, cc_ne, cc_n0, cc_0n, Nat.reduceEqDiff, reduceCtorEq, false_and, and_false, and_self, true_and, if_false, if_true]; exact h.g_spots)
  (g_ask := fun a ha => by
    have q := h.g_ask a ha
    have e : ¬ a = C + 22 := by omega
    simp only [ui_ap, e, false_and, if_false]
    exact q)
  (g_bnc := fun b hb => by
    have q := h.g_bnc b hb
    have e : ¬ b = C + 22 := by omega
    simp only [ui_ap, e, false_and, if_false]
    exact q)
  (g_txt := h.g_txt)
  (g_asksR := h.g_asksR)
  (g_asksN := by simp only [ui_ap, cc_ne, cc_n0, cc_0n, Nat.reduceEqDiff, reduceCtorEq, false_and, and_false, and_self, true_and, if_false, if_true]; exact h.g_asksN)
  (g_benchesR := h.g_benchesR)
  (g_textsR := h.g_textsR)
  (g_orderR := h.g_orderR)
  (g_bestR := h.g_bestR)
  (g_ringR := h.g_ringR)
  (g_draft := h.g_draft)
  (g_benN := by simp only [ui_ap, cc_ne, cc_n0, cc_0n, Nat.reduceEqDiff, reduceCtorEq, false_and, and_false, and_self, true_and, if_false, if_true]; exact h.g_benN)
  (g_benY := by simp only [ui_ap, cc_ne, cc_n0, cc_0n, Nat.reduceEqDiff, reduceCtorEq, false_and, and_false, and_self, true_and, if_false, if_true]; exact h.g_benY)
theorem sT_Planner_passedCount (h : cT C K L J R) {v : Int32} (hv : 0 ≤ v ∧ v ≤ 30) : cT C K L (a_ui J (C + 22) 7 v) R := cT_mk
  (s := h.s)
  (g_now := by simp only [ui_ap, cc_ne, cc_n0, cc_0n, Nat.reduceEqDiff, reduceCtorEq, false_and, and_false, and_self, true_and, if_false, if_true]; exact h.g_now)
  (g_trips := by simp only [ui_ap, cc_ne, cc_n0, cc_0n, Nat.reduceEqDiff, reduceCtorEq, false_and, and_false, and_self, true_and, if_false, if_true]; exact h.g_trips)
  (g_texts := by simp only [ui_ap, cc_ne, cc_n0, cc_0n, Nat.reduceEqDiff, reduceCtorEq, false_and, and_false, and_self, true_and, if_false, if_true]; exact h.g_texts)
  (g_size := by simp only [ui_ap, cc_ne, cc_n0, cc_0n, Nat.reduceEqDiff, reduceCtorEq, false_and, and_false, and_self, true_and, if_false, if_true]; exact h.g_size)
  (g_code := by simp only [ui_ap, cc_ne, cc_n0, cc_0n, Nat.reduceEqDiff, reduceCtorEq, false_and, and_false, and_self, true_and, if_false, if_true]; exact h.g_code)
  (g_at := by simp only [ui_ap, cc_ne, cc_n0, cc_0n, Nat.reduceEqDiff, reduceCtorEq, false_and, and_false, and_self, true_and, if_false, if_true]; exact h.g_at)
  (g_asks := by simp only [ui_ap, cc_ne, cc_n0, cc_0n, Nat.reduceEqDiff, reduceCtorEq, false_and, and_false, and_self, true_and, if_false, if_true]; exact h.g_asks)
  (g_benches := by simp only [ui_ap, cc_ne, cc_n0, cc_0n, Nat.reduceEqDiff, reduceCtorEq, false_and, and_false, and_self, true_and, if_false, if_true]; exact h.g_benches)
  (g_orderSize := by simp only [ui_ap, cc_ne, cc_n0, cc_0n, Nat.reduceEqDiff, reduceCtorEq, false_and, and_false, and_self, true_and, if_false, if_true]; exact h.g_orderSize)
  (g_passed := by simp only [ui_ap, cc_ne, cc_n0, cc_0n, Nat.reduceEqDiff, reduceCtorEq, false_and, and_false, and_self, true_and, if_false, if_true]; exact hv)
  (g_best := by simp only [ui_ap, cc_ne, cc_n0, cc_0n, Nat.reduceEqDiff, reduceCtorEq, false_and, and_false, and_self, true_and, if_false, if_true]; exact h.g_best)
  (g_circle := by simp only [ui_ap, cc_ne, cc_n0, cc_0n, Nat.reduceEqDiff, reduceCtorEq, false_and, and_false, and_self, true_and, if_false, if_true]; exact h.g_circle)
  (g_row := by simp only [ui_ap, cc_ne, cc_n0, cc_0n, Nat.reduceEqDiff, reduceCtorEq, false_and, and_false, and_self, true_and, if_false, if_true]; exact h.g_row)
  (g_rest := by simp only [ui_ap, cc_ne, cc_n0, cc_0n, Nat.reduceEqDiff, reduceCtorEq, false_and, and_false, and_self, true_and, if_false, if_true]; exact h.g_rest)
  (g_lost := by simp only [ui_ap, cc_ne, cc_n0, cc_0n, Nat.reduceEqDiff, reduceCtorEq, false_and, and_false, and_self, true_and, if_false, if_true]; exact h.g_lost)
  (g_spots := by simp only [ui_ap, cc_ne, cc_n0, cc_0n, Nat.reduceEqDiff, reduceCtorEq, false_and, and_false, and_self, true_and, if_false, if_true]; exact h.g_spots)
  (g_ask := fun a ha => by
    have q := h.g_ask a ha
    have e : ¬ a = C + 22 := by omega
    simp only [ui_ap, e, false_and, if_false]
    exact q)
  (g_bnc := fun b hb => by
    have q := h.g_bnc b hb
    have e : ¬ b = C + 22 := by omega
    simp only [ui_ap, e, false_and, if_false]
    exact q)
  (g_txt := h.g_txt)
  (g_asksR := h.g_asksR)
  (g_asksN := by simp only [ui_ap, cc_ne, cc_n0, cc_0n, Nat.reduceEqDiff, reduceCtorEq, false_and, and_false, and_self, true_and, if_false, if_true]; exact h.g_asksN)
  (g_benchesR := h.g_benchesR)
  (g_textsR := h.g_textsR)
  (g_orderR := h.g_orderR)
  (g_bestR := h.g_bestR)
  (g_ringR := h.g_ringR)
  (g_draft := h.g_draft)
  (g_benN := by simp only [ui_ap, cc_ne, cc_n0, cc_0n, Nat.reduceEqDiff, reduceCtorEq, false_and, and_false, and_self, true_and, if_false, if_true]; exact h.g_benN)
  (g_benY := by simp only [ui_ap, cc_ne, cc_n0, cc_0n, Nat.reduceEqDiff, reduceCtorEq, false_and, and_false, and_self, true_and, if_false, if_true]; exact h.g_benY)
theorem sT_Best_size (h : cT C K L J R) {v : Int32} (hv : 0 ≤ v ∧ v ≤ 4) : cT C K L (a_ui J (C + 27) 8 v) R := cT_mk
  (s := h.s)
  (g_now := by simp only [ui_ap, cc_ne, cc_n0, cc_0n, Nat.reduceEqDiff, reduceCtorEq, false_and, and_false, and_self, true_and, if_false, if_true]; exact h.g_now)
  (g_trips := by simp only [ui_ap, cc_ne, cc_n0, cc_0n, Nat.reduceEqDiff, reduceCtorEq, false_and, and_false, and_self, true_and, if_false, if_true]; exact h.g_trips)
  (g_texts := by simp only [ui_ap, cc_ne, cc_n0, cc_0n, Nat.reduceEqDiff, reduceCtorEq, false_and, and_false, and_self, true_and, if_false, if_true]; exact h.g_texts)
  (g_size := by simp only [ui_ap, cc_ne, cc_n0, cc_0n, Nat.reduceEqDiff, reduceCtorEq, false_and, and_false, and_self, true_and, if_false, if_true]; exact h.g_size)
  (g_code := by simp only [ui_ap, cc_ne, cc_n0, cc_0n, Nat.reduceEqDiff, reduceCtorEq, false_and, and_false, and_self, true_and, if_false, if_true]; exact h.g_code)
  (g_at := by simp only [ui_ap, cc_ne, cc_n0, cc_0n, Nat.reduceEqDiff, reduceCtorEq, false_and, and_false, and_self, true_and, if_false, if_true]; exact h.g_at)
  (g_asks := by simp only [ui_ap, cc_ne, cc_n0, cc_0n, Nat.reduceEqDiff, reduceCtorEq, false_and, and_false, and_self, true_and, if_false, if_true]; exact h.g_asks)
  (g_benches := by simp only [ui_ap, cc_ne, cc_n0, cc_0n, Nat.reduceEqDiff, reduceCtorEq, false_and, and_false, and_self, true_and, if_false, if_true]; exact h.g_benches)
  (g_orderSize := by simp only [ui_ap, cc_ne, cc_n0, cc_0n, Nat.reduceEqDiff, reduceCtorEq, false_and, and_false, and_self, true_and, if_false, if_true]; exact h.g_orderSize)
  (g_passed := by simp only [ui_ap, cc_ne, cc_n0, cc_0n, Nat.reduceEqDiff, reduceCtorEq, false_and, and_false, and_self, true_and, if_false, if_true]; exact h.g_passed)
  (g_best := by simp only [ui_ap, cc_ne, cc_n0, cc_0n, Nat.reduceEqDiff, reduceCtorEq, false_and, and_false, and_self, true_and, if_false, if_true]; exact hv)
  (g_circle := by simp only [ui_ap, cc_ne, cc_n0, cc_0n, Nat.reduceEqDiff, reduceCtorEq, false_and, and_false, and_self, true_and, if_false, if_true]; exact h.g_circle)
  (g_row := by simp only [ui_ap, cc_ne, cc_n0, cc_0n, Nat.reduceEqDiff, reduceCtorEq, false_and, and_false, and_self, true_and, if_false, if_true]; exact h.g_row)
  (g_rest := by simp only [ui_ap, cc_ne, cc_n0, cc_0n, Nat.reduceEqDiff, reduceCtorEq, false_and, and_false, and_self, true_and, if_false, if_true]; exact h.g_rest)
  (g_lost := by simp only [ui_ap, cc_ne, cc_n0, cc_0n, Nat.reduceEqDiff, reduceCtorEq, false_and, and_false, and_self, true_and, if_false, if_true]; exact h.g_lost)
  (g_spots := by simp only [ui_ap, cc_ne, cc_n0, cc_0n, Nat.reduceEqDiff, reduceCtorEq, false_and, and_false, and_self, true_and, if_false, if_true]; exact h.g_spots)
  (g_ask := fun a ha => by
    have q := h.g_ask a ha
    have e : ¬ a = C + 27 := by omega
    simp only [ui_ap, e, false_and, if_false]
    exact q)
  (g_bnc := fun b hb => by
    have q := h.g_bnc b hb
    have e : ¬ b = C + 27 := by omega
    simp only [ui_ap, e, false_and, if_false]
    exact q)
  (g_txt := h.g_txt)
  (g_asksR := h.g_asksR)
  (g_asksN := by simp only [ui_ap, cc_ne, cc_n0, cc_0n, Nat.reduceEqDiff, reduceCtorEq, false_and, and_false, and_self, true_and, if_false, if_true]; exact h.g_asksN)
  (g_benchesR := h.g_benchesR)
  (g_textsR := h.g_textsR)
  (g_orderR := h.g_orderR)
  (g_bestR := h.g_bestR)
  (g_ringR := h.g_ringR)
  (g_draft := h.g_draft)
  (g_benN := by simp only [ui_ap, cc_ne, cc_n0, cc_0n, Nat.reduceEqDiff, reduceCtorEq, false_and, and_false, and_self, true_and, if_false, if_true]; exact h.g_benN)
  (g_benY := by simp only [ui_ap, cc_ne, cc_n0, cc_0n, Nat.reduceEqDiff, reduceCtorEq, false_and, and_false, and_self, true_and, if_false, if_true]; exact h.g_benY)
theorem sT_Circle_size (h : cT C K L J R) {v : Int32} (hv : 0 ≤ v ∧ v ≤ 5) : cT C K L (a_ui J (C + 35) 7 v) R := cT_mk
  (s := h.s)
  (g_now := by simp only [ui_ap, cc_ne, cc_n0, cc_0n, Nat.reduceEqDiff, reduceCtorEq, false_and, and_false, and_self, true_and, if_false, if_true]; exact h.g_now)
  (g_trips := by simp only [ui_ap, cc_ne, cc_n0, cc_0n, Nat.reduceEqDiff, reduceCtorEq, false_and, and_false, and_self, true_and, if_false, if_true]; exact h.g_trips)
  (g_texts := by simp only [ui_ap, cc_ne, cc_n0, cc_0n, Nat.reduceEqDiff, reduceCtorEq, false_and, and_false, and_self, true_and, if_false, if_true]; exact h.g_texts)
  (g_size := by simp only [ui_ap, cc_ne, cc_n0, cc_0n, Nat.reduceEqDiff, reduceCtorEq, false_and, and_false, and_self, true_and, if_false, if_true]; exact h.g_size)
  (g_code := by simp only [ui_ap, cc_ne, cc_n0, cc_0n, Nat.reduceEqDiff, reduceCtorEq, false_and, and_false, and_self, true_and, if_false, if_true]; exact h.g_code)
  (g_at := by simp only [ui_ap, cc_ne, cc_n0, cc_0n, Nat.reduceEqDiff, reduceCtorEq, false_and, and_false, and_self, true_and, if_false, if_true]; exact h.g_at)
  (g_asks := by simp only [ui_ap, cc_ne, cc_n0, cc_0n, Nat.reduceEqDiff, reduceCtorEq, false_and, and_false, and_self, true_and, if_false, if_true]; exact h.g_asks)
  (g_benches := by simp only [ui_ap, cc_ne, cc_n0, cc_0n, Nat.reduceEqDiff, reduceCtorEq, false_and, and_false, and_self, true_and, if_false, if_true]; exact h.g_benches)
  (g_orderSize := by simp only [ui_ap, cc_ne, cc_n0, cc_0n, Nat.reduceEqDiff, reduceCtorEq, false_and, and_false, and_self, true_and, if_false, if_true]; exact h.g_orderSize)
  (g_passed := by simp only [ui_ap, cc_ne, cc_n0, cc_0n, Nat.reduceEqDiff, reduceCtorEq, false_and, and_false, and_self, true_and, if_false, if_true]; exact h.g_passed)
  (g_best := by simp only [ui_ap, cc_ne, cc_n0, cc_0n, Nat.reduceEqDiff, reduceCtorEq, false_and, and_false, and_self, true_and, if_false, if_true]; exact h.g_best)
  (g_circle := by simp only [ui_ap, cc_ne, cc_n0, cc_0n, Nat.reduceEqDiff, reduceCtorEq, false_and, and_false, and_self, true_and, if_false, if_true]; exact hv)
  (g_row := by simp only [ui_ap, cc_ne, cc_n0, cc_0n, Nat.reduceEqDiff, reduceCtorEq, false_and, and_false, and_self, true_and, if_false, if_true]; exact h.g_row)
  (g_rest := by simp only [ui_ap, cc_ne, cc_n0, cc_0n, Nat.reduceEqDiff, reduceCtorEq, false_and, and_false, and_self, true_and, if_false, if_true]; exact h.g_rest)
  (g_lost := by simp only [ui_ap, cc_ne, cc_n0, cc_0n, Nat.reduceEqDiff, reduceCtorEq, false_and, and_false, and_self, true_and, if_false, if_true]; exact h.g_lost)
  (g_spots := by simp only [ui_ap, cc_ne, cc_n0, cc_0n, Nat.reduceEqDiff, reduceCtorEq, false_and, and_false, and_self, true_and, if_false, if_true]; exact h.g_spots)
  (g_ask := fun a ha => by
    have q := h.g_ask a ha
    have e : ¬ a = C + 35 := by omega
    simp only [ui_ap, e, false_and, if_false]
    exact q)
  (g_bnc := fun b hb => by
    have q := h.g_bnc b hb
    have e : ¬ b = C + 35 := by omega
    simp only [ui_ap, e, false_and, if_false]
    exact q)
  (g_txt := h.g_txt)
  (g_asksR := h.g_asksR)
  (g_asksN := by simp only [ui_ap, cc_ne, cc_n0, cc_0n, Nat.reduceEqDiff, reduceCtorEq, false_and, and_false, and_self, true_and, if_false, if_true]; exact h.g_asksN)
  (g_benchesR := h.g_benchesR)
  (g_textsR := h.g_textsR)
  (g_orderR := h.g_orderR)
  (g_bestR := h.g_bestR)
  (g_ringR := h.g_ringR)
  (g_draft := h.g_draft)
  (g_benN := by simp only [ui_ap, cc_ne, cc_n0, cc_0n, Nat.reduceEqDiff, reduceCtorEq, false_and, and_false, and_self, true_and, if_false, if_true]; exact h.g_benN)
  (g_benY := by simp only [ui_ap, cc_ne, cc_n0, cc_0n, Nat.reduceEqDiff, reduceCtorEq, false_and, and_false, and_self, true_and, if_false, if_true]; exact h.g_benY)
theorem sT_BeamHall_rowSize (h : cT C K L J R) {v : Int32} (hv : 0 ≤ v ∧ v ≤ 21) : cT C K L (a_ui J (C) 10 v) R := cT_mk
  (s := h.s)
  (g_now := by simp only [ui_ap, cc_ne, cc_n0, cc_0n, Nat.reduceEqDiff, reduceCtorEq, false_and, and_false, and_self, true_and, if_false, if_true]; exact h.g_now)
  (g_trips := by simp only [ui_ap, cc_ne, cc_n0, cc_0n, Nat.reduceEqDiff, reduceCtorEq, false_and, and_false, and_self, true_and, if_false, if_true]; exact h.g_trips)
  (g_texts := by simp only [ui_ap, cc_ne, cc_n0, cc_0n, Nat.reduceEqDiff, reduceCtorEq, false_and, and_false, and_self, true_and, if_false, if_true]; exact h.g_texts)
  (g_size := by simp only [ui_ap, cc_ne, cc_n0, cc_0n, Nat.reduceEqDiff, reduceCtorEq, false_and, and_false, and_self, true_and, if_false, if_true]; exact h.g_size)
  (g_code := by simp only [ui_ap, cc_ne, cc_n0, cc_0n, Nat.reduceEqDiff, reduceCtorEq, false_and, and_false, and_self, true_and, if_false, if_true]; exact h.g_code)
  (g_at := by simp only [ui_ap, cc_ne, cc_n0, cc_0n, Nat.reduceEqDiff, reduceCtorEq, false_and, and_false, and_self, true_and, if_false, if_true]; exact h.g_at)
  (g_asks := by simp only [ui_ap, cc_ne, cc_n0, cc_0n, Nat.reduceEqDiff, reduceCtorEq, false_and, and_false, and_self, true_and, if_false, if_true]; exact h.g_asks)
  (g_benches := by simp only [ui_ap, cc_ne, cc_n0, cc_0n, Nat.reduceEqDiff, reduceCtorEq, false_and, and_false, and_self, true_and, if_false, if_true]; exact h.g_benches)
  (g_orderSize := by simp only [ui_ap, cc_ne, cc_n0, cc_0n, Nat.reduceEqDiff, reduceCtorEq, false_and, and_false, and_self, true_and, if_false, if_true]; exact h.g_orderSize)
  (g_passed := by simp only [ui_ap, cc_ne, cc_n0, cc_0n, Nat.reduceEqDiff, reduceCtorEq, false_and, and_false, and_self, true_and, if_false, if_true]; exact h.g_passed)
  (g_best := by simp only [ui_ap, cc_ne, cc_n0, cc_0n, Nat.reduceEqDiff, reduceCtorEq, false_and, and_false, and_self, true_and, if_false, if_true]; exact h.g_best)
  (g_circle := by simp only [ui_ap, cc_ne, cc_n0, cc_0n, Nat.reduceEqDiff, reduceCtorEq, false_and, and_false, and_self, true_and, if_false, if_true]; exact h.g_circle)
  (g_row := by simp only [ui_ap, cc_ne, cc_n0, cc_0n, Nat.reduceEqDiff, reduceCtorEq, false_and, and_false, and_self, true_and, if_false, if_true]; exact hv)
  (g_rest := by simp only [ui_ap, cc_ne, cc_n0, cc_0n, Nat.reduceEqDiff, reduceCtorEq, false_and, and_false, and_self, true_and, if_false, if_true]; exact h.g_rest)
  (g_lost := by simp only [ui_ap, cc_ne, cc_n0, cc_0n, Nat.reduceEqDiff, reduceCtorEq, false_and, and_false, and_self, true_and, if_false, if_true]; exact h.g_lost)
  (g_spots := by simp only [ui_ap, cc_ne, cc_n0, cc_0n, Nat.reduceEqDiff, reduceCtorEq, false_and, and_false, and_self, true_and, if_false, if_true]; exact h.g_spots)
  (g_ask := fun a ha => by
    have q := h.g_ask a ha
    have e : ¬ a = C := by omega
    simp only [ui_ap, e, false_and, if_false]
    exact q)
  (g_bnc := fun b hb => by
    have q := h.g_bnc b hb
    have e : ¬ b = C := by omega
    simp only [ui_ap, e, false_and, if_false]
    exact q)
  (g_txt := h.g_txt)
  (g_asksR := h.g_asksR)
  (g_asksN := by simp only [ui_ap, cc_ne, cc_n0, cc_0n, Nat.reduceEqDiff, reduceCtorEq, false_and, and_false, and_self, true_and, if_false, if_true]; exact h.g_asksN)
  (g_benchesR := h.g_benchesR)
  (g_textsR := h.g_textsR)
  (g_orderR := h.g_orderR)
  (g_bestR := h.g_bestR)
  (g_ringR := h.g_ringR)
  (g_draft := h.g_draft)
  (g_benN := by simp only [ui_ap, cc_ne, cc_n0, cc_0n, Nat.reduceEqDiff, reduceCtorEq, false_and, and_false, and_self, true_and, if_false, if_true]; exact h.g_benN)
  (g_benY := by simp only [ui_ap, cc_ne, cc_n0, cc_0n, Nat.reduceEqDiff, reduceCtorEq, false_and, and_false, and_self, true_and, if_false, if_true]; exact h.g_benY)
theorem sT_Hall_rest (h : cT C K L J R) {v : Int32} (hv : 0 ≤ v ∧ v ≤ 3) : cT C K L (a_ui J (C + 14) 6 v) R := cT_mk
  (s := h.s)
  (g_now := by simp only [ui_ap, cc_ne, cc_n0, cc_0n, Nat.reduceEqDiff, reduceCtorEq, false_and, and_false, and_self, true_and, if_false, if_true]; exact h.g_now)
  (g_trips := by simp only [ui_ap, cc_ne, cc_n0, cc_0n, Nat.reduceEqDiff, reduceCtorEq, false_and, and_false, and_self, true_and, if_false, if_true]; exact h.g_trips)
  (g_texts := by simp only [ui_ap, cc_ne, cc_n0, cc_0n, Nat.reduceEqDiff, reduceCtorEq, false_and, and_false, and_self, true_and, if_false, if_true]; exact h.g_texts)
  (g_size := by simp only [ui_ap, cc_ne, cc_n0, cc_0n, Nat.reduceEqDiff, reduceCtorEq, false_and, and_false, and_self, true_and, if_false, if_true]; exact h.g_size)
  (g_code := by simp only [ui_ap, cc_ne, cc_n0, cc_0n, Nat.reduceEqDiff, reduceCtorEq, false_and, and_false, and_self, true_and, if_false, if_true]; exact h.g_code)
  (g_at := by simp only [ui_ap, cc_ne, cc_n0, cc_0n, Nat.reduceEqDiff, reduceCtorEq, false_and, and_false, and_self, true_and, if_false, if_true]; exact h.g_at)
  (g_asks := by simp only [ui_ap, cc_ne, cc_n0, cc_0n, Nat.reduceEqDiff, reduceCtorEq, false_and, and_false, and_self, true_and, if_false, if_true]; exact h.g_asks)
  (g_benches := by simp only [ui_ap, cc_ne, cc_n0, cc_0n, Nat.reduceEqDiff, reduceCtorEq, false_and, and_false, and_self, true_and, if_false, if_true]; exact h.g_benches)
  (g_orderSize := by simp only [ui_ap, cc_ne, cc_n0, cc_0n, Nat.reduceEqDiff, reduceCtorEq, false_and, and_false, and_self, true_and, if_false, if_true]; exact h.g_orderSize)
  (g_passed := by simp only [ui_ap, cc_ne, cc_n0, cc_0n, Nat.reduceEqDiff, reduceCtorEq, false_and, and_false, and_self, true_and, if_false, if_true]; exact h.g_passed)
  (g_best := by simp only [ui_ap, cc_ne, cc_n0, cc_0n, Nat.reduceEqDiff, reduceCtorEq, false_and, and_false, and_self, true_and, if_false, if_true]; exact h.g_best)
  (g_circle := by simp only [ui_ap, cc_ne, cc_n0, cc_0n, Nat.reduceEqDiff, reduceCtorEq, false_and, and_false, and_self, true_and, if_false, if_true]; exact h.g_circle)
  (g_row := by simp only [ui_ap, cc_ne, cc_n0, cc_0n, Nat.reduceEqDiff, reduceCtorEq, false_and, and_false, and_self, true_and, if_false, if_true]; exact h.g_row)
  (g_rest := by simp only [ui_ap, cc_ne, cc_n0, cc_0n, Nat.reduceEqDiff, reduceCtorEq, false_and, and_false, and_self, true_and, if_false, if_true]; exact hv)
  (g_lost := by simp only [ui_ap, cc_ne, cc_n0, cc_0n, Nat.reduceEqDiff, reduceCtorEq, false_and, and_false, and_self, true_and, if_false, if_true]; exact h.g_lost)
  (g_spots := by simp only [ui_ap, cc_ne, cc_n0, cc_0n, Nat.reduceEqDiff, reduceCtorEq, false_and, and_false, and_self, true_and, if_false, if_true]; exact h.g_spots)
  (g_ask := fun a ha => by
    have q := h.g_ask a ha
    have e : ¬ a = C + 14 := by omega
    simp only [ui_ap, e, false_and, if_false]
    exact q)
  (g_bnc := fun b hb => by
    have q := h.g_bnc b hb
    have e : ¬ b = C + 14 := by omega
    simp only [ui_ap, e, false_and, if_false]
    exact q)
  (g_txt := h.g_txt)
  (g_asksR := h.g_asksR)
  (g_asksN := by simp only [ui_ap, cc_ne, cc_n0, cc_0n, Nat.reduceEqDiff, reduceCtorEq, false_and, and_false, and_self, true_and, if_false, if_true]; exact h.g_asksN)
  (g_benchesR := h.g_benchesR)
  (g_textsR := h.g_textsR)
  (g_orderR := h.g_orderR)
  (g_bestR := h.g_bestR)
  (g_ringR := h.g_ringR)
  (g_draft := h.g_draft)
  (g_benN := by simp only [ui_ap, cc_ne, cc_n0, cc_0n, Nat.reduceEqDiff, reduceCtorEq, false_and, and_false, and_self, true_and, if_false, if_true]; exact h.g_benN)
  (g_benY := by simp only [ui_ap, cc_ne, cc_n0, cc_0n, Nat.reduceEqDiff, reduceCtorEq, false_and, and_false, and_self, true_and, if_false, if_true]; exact h.g_benY)
theorem sT_Beam_lost (h : cT C K L J R) {k : Nat} {v : Int32} (hv : 0 ≤ v ∧ v ≤ 255) : cT C K L (a_ui J (C + 3) k v) R := cT_mk
  (s := h.s)
  (g_now := by simp only [ui_ap, cc_ne, cc_n0, cc_0n, Nat.reduceEqDiff, reduceCtorEq, false_and, and_false, and_self, true_and, if_false, if_true]; exact h.g_now)
  (g_trips := by simp only [ui_ap, cc_ne, cc_n0, cc_0n, Nat.reduceEqDiff, reduceCtorEq, false_and, and_false, and_self, true_and, if_false, if_true]; exact h.g_trips)
  (g_texts := by simp only [ui_ap, cc_ne, cc_n0, cc_0n, Nat.reduceEqDiff, reduceCtorEq, false_and, and_false, and_self, true_and, if_false, if_true]; exact h.g_texts)
  (g_size := by simp only [ui_ap, cc_ne, cc_n0, cc_0n, Nat.reduceEqDiff, reduceCtorEq, false_and, and_false, and_self, true_and, if_false, if_true]; exact h.g_size)
  (g_code := by simp only [ui_ap, cc_ne, cc_n0, cc_0n, Nat.reduceEqDiff, reduceCtorEq, false_and, and_false, and_self, true_and, if_false, if_true]; exact h.g_code)
  (g_at := by simp only [ui_ap, cc_ne, cc_n0, cc_0n, Nat.reduceEqDiff, reduceCtorEq, false_and, and_false, and_self, true_and, if_false, if_true]; exact h.g_at)
  (g_asks := by simp only [ui_ap, cc_ne, cc_n0, cc_0n, Nat.reduceEqDiff, reduceCtorEq, false_and, and_false, and_self, true_and, if_false, if_true]; exact h.g_asks)
  (g_benches := by simp only [ui_ap, cc_ne, cc_n0, cc_0n, Nat.reduceEqDiff, reduceCtorEq, false_and, and_false, and_self, true_and, if_false, if_true]; exact h.g_benches)
  (g_orderSize := by simp only [ui_ap, cc_ne, cc_n0, cc_0n, Nat.reduceEqDiff, reduceCtorEq, false_and, and_false, and_self, true_and, if_false, if_true]; exact h.g_orderSize)
  (g_passed := by simp only [ui_ap, cc_ne, cc_n0, cc_0n, Nat.reduceEqDiff, reduceCtorEq, false_and, and_false, and_self, true_and, if_false, if_true]; exact h.g_passed)
  (g_best := by simp only [ui_ap, cc_ne, cc_n0, cc_0n, Nat.reduceEqDiff, reduceCtorEq, false_and, and_false, and_self, true_and, if_false, if_true]; exact h.g_best)
  (g_circle := by simp only [ui_ap, cc_ne, cc_n0, cc_0n, Nat.reduceEqDiff, reduceCtorEq, false_and, and_false, and_self, true_and, if_false, if_true]; exact h.g_circle)
  (g_row := by simp only [ui_ap, cc_ne, cc_n0, cc_0n, Nat.reduceEqDiff, reduceCtorEq, false_and, and_false, and_self, true_and, if_false, if_true]; exact h.g_row)
  (g_rest := by simp only [ui_ap, cc_ne, cc_n0, cc_0n, Nat.reduceEqDiff, reduceCtorEq, false_and, and_false, and_self, true_and, if_false, if_true]; exact h.g_rest)
  (g_lost := fun j => by
    have q := h.g_lost j
    rw [ui_ap]
    split
    · exact hv
    · exact q)
  (g_spots := by simp only [ui_ap, cc_ne, cc_n0, cc_0n, Nat.reduceEqDiff, reduceCtorEq, false_and, and_false, and_self, true_and, if_false, if_true]; exact h.g_spots)
  (g_ask := fun a ha => by
    have q := h.g_ask a ha
    have e : ¬ a = C + 3 := by omega
    simp only [ui_ap, e, false_and, if_false]
    exact q)
  (g_bnc := fun b hb => by
    have q := h.g_bnc b hb
    have e : ¬ b = C + 3 := by omega
    simp only [ui_ap, e, false_and, if_false]
    exact q)
  (g_txt := h.g_txt)
  (g_asksR := h.g_asksR)
  (g_asksN := by simp only [ui_ap, cc_ne, cc_n0, cc_0n, Nat.reduceEqDiff, reduceCtorEq, false_and, and_false, and_self, true_and, if_false, if_true]; exact h.g_asksN)
  (g_benchesR := h.g_benchesR)
  (g_textsR := h.g_textsR)
  (g_orderR := h.g_orderR)
  (g_bestR := h.g_bestR)
  (g_ringR := h.g_ringR)
  (g_draft := h.g_draft)
  (g_benN := by simp only [ui_ap, cc_ne, cc_n0, cc_0n, Nat.reduceEqDiff, reduceCtorEq, false_and, and_false, and_self, true_and, if_false, if_true]; exact h.g_benN)
  (g_benY := by simp only [ui_ap, cc_ne, cc_n0, cc_0n, Nat.reduceEqDiff, reduceCtorEq, false_and, and_false, and_self, true_and, if_false, if_true]; exact h.g_benY)
theorem sT_Beam_tripFrom (h : cT C K L J R) {k : Nat} {v : Int32} : cT C K L (a_ui J (C + 4) k v) R := cT_mk
  (s := h.s)
  (g_now := by simp only [ui_ap, cc_ne, cc_n0, cc_0n, Nat.reduceEqDiff, reduceCtorEq, false_and, and_false, and_self, true_and, if_false, if_true]; exact h.g_now)
  (g_trips := by simp only [ui_ap, cc_ne, cc_n0, cc_0n, Nat.reduceEqDiff, reduceCtorEq, false_and, and_false, and_self, true_and, if_false, if_true]; exact h.g_trips)
  (g_texts := by simp only [ui_ap, cc_ne, cc_n0, cc_0n, Nat.reduceEqDiff, reduceCtorEq, false_and, and_false, and_self, true_and, if_false, if_true]; exact h.g_texts)
  (g_size := by simp only [ui_ap, cc_ne, cc_n0, cc_0n, Nat.reduceEqDiff, reduceCtorEq, false_and, and_false, and_self, true_and, if_false, if_true]; exact h.g_size)
  (g_code := by simp only [ui_ap, cc_ne, cc_n0, cc_0n, Nat.reduceEqDiff, reduceCtorEq, false_and, and_false, and_self, true_and, if_false, if_true]; exact h.g_code)
  (g_at := by simp only [ui_ap, cc_ne, cc_n0, cc_0n, Nat.reduceEqDiff, reduceCtorEq, false_and, and_false, and_self, true_and, if_false, if_true]; exact h.g_at)
  (g_asks := by simp only [ui_ap, cc_ne, cc_n0, cc_0n, Nat.reduceEqDiff, reduceCtorEq, false_and, and_false, and_self, true_and, if_false, if_true]; exact h.g_asks)
  (g_benches := by simp only [ui_ap, cc_ne, cc_n0, cc_0n, Nat.reduceEqDiff, reduceCtorEq, false_and, and_false, and_self, true_and, if_false, if_true]; exact h.g_benches)
  (g_orderSize := by simp only [ui_ap, cc_ne, cc_n0, cc_0n, Nat.reduceEqDiff, reduceCtorEq, false_and, and_false, and_self, true_and, if_false, if_true]; exact h.g_orderSize)
  (g_passed := by simp only [ui_ap, cc_ne, cc_n0, cc_0n, Nat.reduceEqDiff, reduceCtorEq, false_and, and_false, and_self, true_and, if_false, if_true]; exact h.g_passed)
  (g_best := by simp only [ui_ap, cc_ne, cc_n0, cc_0n, Nat.reduceEqDiff, reduceCtorEq, false_and, and_false, and_self, true_and, if_false, if_true]; exact h.g_best)
  (g_circle := by simp only [ui_ap, cc_ne, cc_n0, cc_0n, Nat.reduceEqDiff, reduceCtorEq, false_and, and_false, and_self, true_and, if_false, if_true]; exact h.g_circle)
  (g_row := by simp only [ui_ap, cc_ne, cc_n0, cc_0n, Nat.reduceEqDiff, reduceCtorEq, false_and, and_false, and_self, true_and, if_false, if_true]; exact h.g_row)
  (g_rest := by simp only [ui_ap, cc_ne, cc_n0, cc_0n, Nat.reduceEqDiff, reduceCtorEq, false_and, and_false, and_self, true_and, if_false, if_true]; exact h.g_rest)
  (g_lost := by simp only [ui_ap, cc_ne, cc_n0, cc_0n, Nat.reduceEqDiff, reduceCtorEq, false_and, and_false, and_self, true_and, if_false, if_true]; exact h.g_lost)
  (g_spots := by simp only [ui_ap, cc_ne, cc_n0, cc_0n, Nat.reduceEqDiff, reduceCtorEq, false_and, and_false, and_self, true_and, if_false, if_true]; exact h.g_spots)
  (g_ask := fun a ha => by
    have q := h.g_ask a ha
    have e : ¬ a = C + 4 := by omega
    simp only [ui_ap, e, false_and, if_false]
    exact q)
  (g_bnc := fun b hb => by
    have q := h.g_bnc b hb
    have e : ¬ b = C + 4 := by omega
    simp only [ui_ap, e, false_and, if_false]
    exact q)
  (g_txt := h.g_txt)
  (g_asksR := h.g_asksR)
  (g_asksN := by simp only [ui_ap, cc_ne, cc_n0, cc_0n, Nat.reduceEqDiff, reduceCtorEq, false_and, and_false, and_self, true_and, if_false, if_true]; exact h.g_asksN)
  (g_benchesR := h.g_benchesR)
  (g_textsR := h.g_textsR)
  (g_orderR := h.g_orderR)
  (g_bestR := h.g_bestR)
  (g_ringR := h.g_ringR)
  (g_draft := h.g_draft)
  (g_benN := by simp only [ui_ap, cc_ne, cc_n0, cc_0n, Nat.reduceEqDiff, reduceCtorEq, false_and, and_false, and_self, true_and, if_false, if_true]; exact h.g_benN)
  (g_benY := by simp only [ui_ap, cc_ne, cc_n0, cc_0n, Nat.reduceEqDiff, reduceCtorEq, false_and, and_false, and_self, true_and, if_false, if_true]; exact h.g_benY)
theorem sT_Beam_tripTill (h : cT C K L J R) {k : Nat} {v : Int32} : cT C K L (a_ui J (C + 5) k v) R := cT_mk
  (s := h.s)
  (g_now := by simp only [ui_ap, cc_ne, cc_n0, cc_0n, Nat.reduceEqDiff, reduceCtorEq, false_and, and_false, and_self, true_and, if_false, if_true]; exact h.g_now)
  (g_trips := by simp only [ui_ap, cc_ne, cc_n0, cc_0n, Nat.reduceEqDiff, reduceCtorEq, false_and, and_false, and_self, true_and, if_false, if_true]; exact h.g_trips)
  (g_texts := by simp only [ui_ap, cc_ne, cc_n0, cc_0n, Nat.reduceEqDiff, reduceCtorEq, false_and, and_false, and_self, true_and, if_false, if_true]; exact h.g_texts)
  (g_size := by simp only [ui_ap, cc_ne, cc_n0, cc_0n, Nat.reduceEqDiff, reduceCtorEq, false_and, and_false, and_self, true_and, if_false, if_true]; exact h.g_size)
  (g_code := by simp only [ui_ap, cc_ne, cc_n0, cc_0n, Nat.reduceEqDiff, reduceCtorEq, false_and, and_false, and_self, true_and, if_false, if_true]; exact h.g_code)
  (g_at := by simp only [ui_ap, cc_ne, cc_n0, cc_0n, Nat.reduceEqDiff, reduceCtorEq, false_and, and_false, and_self, true_and, if_false, if_true]; exact h.g_at)
  (g_asks := by simp only [ui_ap, cc_ne, cc_n0, cc_0n, Nat.reduceEqDiff, reduceCtorEq, false_and, and_false, and_self, true_and, if_false, if_true]; exact h.g_asks)
  (g_benches := by simp only [ui_ap, cc_ne, cc_n0, cc_0n, Nat.reduceEqDiff, reduceCtorEq, false_and, and_false, and_self, true_and, if_false, if_true]; exact h.g_benches)
  (g_orderSize := by simp only [ui_ap, cc_ne, cc_n0, cc_0n, Nat.reduceEqDiff, reduceCtorEq, false_and, and_false, and_self, true_and, if_false, if_true]; exact h.g_orderSize)
  (g_passed := by simp only [ui_ap, cc_ne, cc_n0, cc_0n, Nat.reduceEqDiff, reduceCtorEq, false_and, and_false, and_self, true_and, if_false, if_true]; exact h.g_passed)
  (g_best := by simp only [ui_ap, cc_ne, cc_n0, cc_0n, Nat.reduceEqDiff, reduceCtorEq, false_and, and_false, and_self, true_and, if_false, if_true]; exact h.g_best)
  (g_circle := by simp only [ui_ap, cc_ne, cc_n0, cc_0n, Nat.reduceEqDiff, reduceCtorEq, false_and, and_false, and_self, true_and, if_false, if_true]; exact h.g_circle)
  (g_row := by simp only [ui_ap, cc_ne, cc_n0, cc_0n, Nat.reduceEqDiff, reduceCtorEq, false_and, and_false, and_self, true_and, if_false, if_true]; exact h.g_row)
  (g_rest := by simp only [ui_ap, cc_ne, cc_n0, cc_0n, Nat.reduceEqDiff, reduceCtorEq, false_and, and_false, and_self, true_and, if_false, if_true]; exact h.g_rest)
  (g_lost := by simp only [ui_ap, cc_ne, cc_n0, cc_0n, Nat.reduceEqDiff, reduceCtorEq, false_and, and_false, and_self, true_and, if_false, if_true]; exact h.g_lost)
  (g_spots := by simp only [ui_ap, cc_ne, cc_n0, cc_0n, Nat.reduceEqDiff, reduceCtorEq, false_and, and_false, and_self, true_and, if_false, if_true]; exact h.g_spots)
  (g_ask := fun a ha => by
    have q := h.g_ask a ha
    have e : ¬ a = C + 5 := by omega
    simp only [ui_ap, e, false_and, if_false]
    exact q)
  (g_bnc := fun b hb => by
    have q := h.g_bnc b hb
    have e : ¬ b = C + 5 := by omega
    simp only [ui_ap, e, false_and, if_false]
    exact q)
  (g_txt := h.g_txt)
  (g_asksR := h.g_asksR)
  (g_asksN := by simp only [ui_ap, cc_ne, cc_n0, cc_0n, Nat.reduceEqDiff, reduceCtorEq, false_and, and_false, and_self, true_and, if_false, if_true]; exact h.g_asksN)
  (g_benchesR := h.g_benchesR)
  (g_textsR := h.g_textsR)
  (g_orderR := h.g_orderR)
  (g_bestR := h.g_bestR)
  (g_ringR := h.g_ringR)
  (g_draft := h.g_draft)
  (g_benN := by simp only [ui_ap, cc_ne, cc_n0, cc_0n, Nat.reduceEqDiff, reduceCtorEq, false_and, and_false, and_self, true_and, if_false, if_true]; exact h.g_benN)
  (g_benY := by simp only [ui_ap, cc_ne, cc_n0, cc_0n, Nat.reduceEqDiff, reduceCtorEq, false_and, and_false, and_self, true_and, if_false, if_true]; exact h.g_benY)
theorem sT_Beam_tripFound (h : cT C K L J R) {k : Nat} {v : Int32} : cT C K L (a_ui J (C + 6) k v) R := cT_mk
  (s := h.s)
  (g_now := by simp only [ui_ap, cc_ne, cc_n0, cc_0n, Nat.reduceEqDiff, reduceCtorEq, false_and, and_false, and_self, true_and, if_false, if_true]; exact h.g_now)
  (g_trips := by simp only [ui_ap, cc_ne, cc_n0, cc_0n, Nat.reduceEqDiff, reduceCtorEq, false_and, and_false, and_self, true_and, if_false, if_true]; exact h.g_trips)
  (g_texts := by simp only [ui_ap, cc_ne, cc_n0, cc_0n, Nat.reduceEqDiff, reduceCtorEq, false_and, and_false, and_self, true_and, if_false, if_true]; exact h.g_texts)
  (g_size := by simp only [ui_ap, cc_ne, cc_n0, cc_0n, Nat.reduceEqDiff, reduceCtorEq, false_and, and_false, and_self, true_and, if_false, if_true]; exact h.g_size)
  (g_code := by simp only [ui_ap, cc_ne, cc_n0, cc_0n, Nat.reduceEqDiff, reduceCtorEq, false_and, and_false, and_self, true_and, if_false, if_true]; exact h.g_code)
  (g_at := by simp only [ui_ap, cc_ne, cc_n0, cc_0n, Nat.reduceEqDiff, reduceCtorEq, false_and, and_false, and_self, true_and, if_false, if_true]; exact h.g_at)
  (g_asks := by simp only [ui_ap, cc_ne, cc_n0, cc_0n, Nat.reduceEqDiff, reduceCtorEq, false_and, and_false, and_self, true_and, if_false, if_true]; exact h.g_asks)
  (g_benches := by simp only [ui_ap, cc_ne, cc_n0, cc_0n, Nat.reduceEqDiff, reduceCtorEq, false_and, and_false, and_self, true_and, if_false, if_true]; exact h.g_benches)
  (g_orderSize := by simp only [ui_ap, cc_ne, cc_n0, cc_0n, Nat.reduceEqDiff, reduceCtorEq, false_and, and_false, and_self, true_and, if_false, if_true]; exact h.g_orderSize)
  (g_passed := by simp only [ui_ap, cc_ne, cc_n0, cc_0n, Nat.reduceEqDiff, reduceCtorEq, false_and, and_false, and_self, true_and, if_false, if_true]; exact h.g_passed)
  (g_best := by simp only [ui_ap, cc_ne, cc_n0, cc_0n, Nat.reduceEqDiff, reduceCtorEq, false_and, and_false, and_self, true_and, if_false, if_true]; exact h.g_best)
  (g_circle := by simp only [ui_ap, cc_ne, cc_n0, cc_0n, Nat.reduceEqDiff, reduceCtorEq, false_and, and_false, and_self, true_and, if_false, if_true]; exact h.g_circle)
  (g_row := by simp only [ui_ap, cc_ne, cc_n0, cc_0n, Nat.reduceEqDiff, reduceCtorEq, false_and, and_false, and_self, true_and, if_false, if_true]; exact h.g_row)
  (g_rest := by simp only [ui_ap, cc_ne, cc_n0, cc_0n, Nat.reduceEqDiff, reduceCtorEq, false_and, and_false, and_self, true_and, if_false, if_true]; exact h.g_rest)
  (g_lost := by simp only [ui_ap, cc_ne, cc_n0, cc_0n, Nat.reduceEqDiff, reduceCtorEq, false_and, and_false, and_self, true_and, if_false, if_true]; exact h.g_lost)
  (g_spots := by simp only [ui_ap, cc_ne, cc_n0, cc_0n, Nat.reduceEqDiff, reduceCtorEq, false_and, and_false, and_self, true_and, if_false, if_true]; exact h.g_spots)
  (g_ask := fun a ha => by
    have q := h.g_ask a ha
    have e : ¬ a = C + 6 := by omega
    simp only [ui_ap, e, false_and, if_false]
    exact q)
  (g_bnc := fun b hb => by
    have q := h.g_bnc b hb
    have e : ¬ b = C + 6 := by omega
    simp only [ui_ap, e, false_and, if_false]
    exact q)
  (g_txt := h.g_txt)
  (g_asksR := h.g_asksR)
  (g_asksN := by simp only [ui_ap, cc_ne, cc_n0, cc_0n, Nat.reduceEqDiff, reduceCtorEq, false_and, and_false, and_self, true_and, if_false, if_true]; exact h.g_asksN)
  (g_benchesR := h.g_benchesR)
  (g_textsR := h.g_textsR)
  (g_orderR := h.g_orderR)
  (g_bestR := h.g_bestR)
  (g_ringR := h.g_ringR)
  (g_draft := h.g_draft)
  (g_benN := by simp only [ui_ap, cc_ne, cc_n0, cc_0n, Nat.reduceEqDiff, reduceCtorEq, false_and, and_false, and_self, true_and, if_false, if_true]; exact h.g_benN)
  (g_benY := by simp only [ui_ap, cc_ne, cc_n0, cc_0n, Nat.reduceEqDiff, reduceCtorEq, false_and, and_false, and_self, true_and, if_false, if_true]; exact h.g_benY)
theorem sT_Rules_facts (h : cT C K L J R) {k : Nat} {v : Int32} : cT C K L (a_ui J (C + 9) k v) R := cT_mk
  (s := h.s)
  (g_now := by simp only [ui_ap, cc_ne, cc_n0, cc_0n, Nat.reduceEqDiff, reduceCtorEq, false_and, and_false, and_self, true_and, if_false, if_true]; exact h.g_now)
  (g_trips := by simp only [ui_ap, cc_ne, cc_n0, cc_0n, Nat.reduceEqDiff, reduceCtorEq, false_and, and_false, and_self, true_and, if_false, if_true]; exact h.g_trips)
  (g_texts := by simp only [ui_ap, cc_ne, cc_n0, cc_0n, Nat.reduceEqDiff, reduceCtorEq, false_and, and_false, and_self, true_and, if_false, if_true]; exact h.g_texts)
  (g_size := by simp only [ui_ap, cc_ne, cc_n0, cc_0n, Nat.reduceEqDiff, reduceCtorEq, false_and, and_false, and_self, true_and, if_false, if_true]; exact h.g_size)
  (g_code := by simp only [ui_ap, cc_ne, cc_n0, cc_0n, Nat.reduceEqDiff, reduceCtorEq, false_and, and_false, and_self, true_and, if_false, if_true]; exact h.g_code)
  (g_at := by simp only [ui_ap, cc_ne, cc_n0, cc_0n, Nat.reduceEqDiff, reduceCtorEq, false_and, and_false, and_self, true_and, if_false, if_true]; exact h.g_at)
  (g_asks := by simp only [ui_ap, cc_ne, cc_n0, cc_0n, Nat.reduceEqDiff, reduceCtorEq, false_and, and_false, and_self, true_and, if_false, if_true]; exact h.g_asks)
  (g_benches := by simp only [ui_ap, cc_ne, cc_n0, cc_0n, Nat.reduceEqDiff, reduceCtorEq, false_and, and_false, and_self, true_and, if_false, if_true]; exact h.g_benches)
  (g_orderSize := by simp only [ui_ap, cc_ne, cc_n0, cc_0n, Nat.reduceEqDiff, reduceCtorEq, false_and, and_false, and_self, true_and, if_false, if_true]; exact h.g_orderSize)
  (g_passed := by simp only [ui_ap, cc_ne, cc_n0, cc_0n, Nat.reduceEqDiff, reduceCtorEq, false_and, and_false, and_self, true_and, if_false, if_true]; exact h.g_passed)
  (g_best := by simp only [ui_ap, cc_ne, cc_n0, cc_0n, Nat.reduceEqDiff, reduceCtorEq, false_and, and_false, and_self, true_and, if_false, if_true]; exact h.g_best)
  (g_circle := by simp only [ui_ap, cc_ne, cc_n0, cc_0n, Nat.reduceEqDiff, reduceCtorEq, false_and, and_false, and_self, true_and, if_false, if_true]; exact h.g_circle)
  (g_row := by simp only [ui_ap, cc_ne, cc_n0, cc_0n, Nat.reduceEqDiff, reduceCtorEq, false_and, and_false, and_self, true_and, if_false, if_true]; exact h.g_row)
  (g_rest := by simp only [ui_ap, cc_ne, cc_n0, cc_0n, Nat.reduceEqDiff, reduceCtorEq, false_and, and_false, and_self, true_and, if_false, if_true]; exact h.g_rest)
  (g_lost := by simp only [ui_ap, cc_ne, cc_n0, cc_0n, Nat.reduceEqDiff, reduceCtorEq, false_and, and_false, and_self, true_and, if_false, if_true]; exact h.g_lost)
  (g_spots := by simp only [ui_ap, cc_ne, cc_n0, cc_0n, Nat.reduceEqDiff, reduceCtorEq, false_and, and_false, and_self, true_and, if_false, if_true]; exact h.g_spots)
  (g_ask := fun a ha => by
    have q := h.g_ask a ha
    have e : ¬ a = C + 9 := by omega
    simp only [ui_ap, e, false_and, if_false]
    exact q)
  (g_bnc := fun b hb => by
    have q := h.g_bnc b hb
    have e : ¬ b = C + 9 := by omega
    simp only [ui_ap, e, false_and, if_false]
    exact q)
  (g_txt := h.g_txt)
  (g_asksR := h.g_asksR)
  (g_asksN := by simp only [ui_ap, cc_ne, cc_n0, cc_0n, Nat.reduceEqDiff, reduceCtorEq, false_and, and_false, and_self, true_and, if_false, if_true]; exact h.g_asksN)
  (g_benchesR := h.g_benchesR)
  (g_textsR := h.g_textsR)
  (g_orderR := h.g_orderR)
  (g_bestR := h.g_bestR)
  (g_ringR := h.g_ringR)
  (g_draft := h.g_draft)
  (g_benN := by simp only [ui_ap, cc_ne, cc_n0, cc_0n, Nat.reduceEqDiff, reduceCtorEq, false_and, and_false, and_self, true_and, if_false, if_true]; exact h.g_benN)
  (g_benY := by simp only [ui_ap, cc_ne, cc_n0, cc_0n, Nat.reduceEqDiff, reduceCtorEq, false_and, and_false, and_self, true_and, if_false, if_true]; exact h.g_benY)
theorem sT_Rules_stack (h : cT C K L J R) {k : Nat} {v : Int32} : cT C K L (a_ui J (C + 10) k v) R := cT_mk
  (s := h.s)
  (g_now := by simp only [ui_ap, cc_ne, cc_n0, cc_0n, Nat.reduceEqDiff, reduceCtorEq, false_and, and_false, and_self, true_and, if_false, if_true]; exact h.g_now)
  (g_trips := by simp only [ui_ap, cc_ne, cc_n0, cc_0n, Nat.reduceEqDiff, reduceCtorEq, false_and, and_false, and_self, true_and, if_false, if_true]; exact h.g_trips)
  (g_texts := by simp only [ui_ap, cc_ne, cc_n0, cc_0n, Nat.reduceEqDiff, reduceCtorEq, false_and, and_false, and_self, true_and, if_false, if_true]; exact h.g_texts)
  (g_size := by simp only [ui_ap, cc_ne, cc_n0, cc_0n, Nat.reduceEqDiff, reduceCtorEq, false_and, and_false, and_self, true_and, if_false, if_true]; exact h.g_size)
  (g_code := by simp only [ui_ap, cc_ne, cc_n0, cc_0n, Nat.reduceEqDiff, reduceCtorEq, false_and, and_false, and_self, true_and, if_false, if_true]; exact h.g_code)
  (g_at := by simp only [ui_ap, cc_ne, cc_n0, cc_0n, Nat.reduceEqDiff, reduceCtorEq, false_and, and_false, and_self, true_and, if_false, if_true]; exact h.g_at)
  (g_asks := by simp only [ui_ap, cc_ne, cc_n0, cc_0n, Nat.reduceEqDiff, reduceCtorEq, false_and, and_false, and_self, true_and, if_false, if_true]; exact h.g_asks)
  (g_benches := by simp only [ui_ap, cc_ne, cc_n0, cc_0n, Nat.reduceEqDiff, reduceCtorEq, false_and, and_false, and_self, true_and, if_false, if_true]; exact h.g_benches)
  (g_orderSize := by simp only [ui_ap, cc_ne, cc_n0, cc_0n, Nat.reduceEqDiff, reduceCtorEq, false_and, and_false, and_self, true_and, if_false, if_true]; exact h.g_orderSize)
  (g_passed := by simp only [ui_ap, cc_ne, cc_n0, cc_0n, Nat.reduceEqDiff, reduceCtorEq, false_and, and_false, and_self, true_and, if_false, if_true]; exact h.g_passed)
  (g_best := by simp only [ui_ap, cc_ne, cc_n0, cc_0n, Nat.reduceEqDiff, reduceCtorEq, false_and, and_false, and_self, true_and, if_false, if_true]; exact h.g_best)
  (g_circle := by simp only [ui_ap, cc_ne, cc_n0, cc_0n, Nat.reduceEqDiff, reduceCtorEq, false_and, and_false, and_self, true_and, if_false, if_true]; exact h.g_circle)
  (g_row := by simp only [ui_ap, cc_ne, cc_n0, cc_0n, Nat.reduceEqDiff, reduceCtorEq, false_and, and_false, and_self, true_and, if_false, if_true]; exact h.g_row)
  (g_rest := by simp only [ui_ap, cc_ne, cc_n0, cc_0n, Nat.reduceEqDiff, reduceCtorEq, false_and, and_false, and_self, true_and, if_false, if_true]; exact h.g_rest)
  (g_lost := by simp only [ui_ap, cc_ne, cc_n0, cc_0n, Nat.reduceEqDiff, reduceCtorEq, false_and, and_false, and_self, true_and, if_false, if_true]; exact h.g_lost)
  (g_spots := by simp only [ui_ap, cc_ne, cc_n0, cc_0n, Nat.reduceEqDiff, reduceCtorEq, false_and, and_false, and_self, true_and, if_false, if_true]; exact h.g_spots)
  (g_ask := fun a ha => by
    have q := h.g_ask a ha
    have e : ¬ a = C + 10 := by omega
    simp only [ui_ap, e, false_and, if_false]
    exact q)
  (g_bnc := fun b hb => by
    have q := h.g_bnc b hb
    have e : ¬ b = C + 10 := by omega
    simp only [ui_ap, e, false_and, if_false]
    exact q)
  (g_txt := h.g_txt)
  (g_asksR := h.g_asksR)
  (g_asksN := by simp only [ui_ap, cc_ne, cc_n0, cc_0n, Nat.reduceEqDiff, reduceCtorEq, false_and, and_false, and_self, true_and, if_false, if_true]; exact h.g_asksN)
  (g_benchesR := h.g_benchesR)
  (g_textsR := h.g_textsR)
  (g_orderR := h.g_orderR)
  (g_bestR := h.g_bestR)
  (g_ringR := h.g_ringR)
  (g_draft := h.g_draft)
  (g_benN := by simp only [ui_ap, cc_ne, cc_n0, cc_0n, Nat.reduceEqDiff, reduceCtorEq, false_and, and_false, and_self, true_and, if_false, if_true]; exact h.g_benN)
  (g_benY := by simp only [ui_ap, cc_ne, cc_n0, cc_0n, Nat.reduceEqDiff, reduceCtorEq, false_and, and_false, and_self, true_and, if_false, if_true]; exact h.g_benY)
theorem sT_Tape_bytes (h : cT C K L J R) {k : Nat} {v : Int32} : cT C K L (a_ui J (C + 12) k v) R := cT_mk
  (s := h.s)
  (g_now := by simp only [ui_ap, cc_ne, cc_n0, cc_0n, Nat.reduceEqDiff, reduceCtorEq, false_and, and_false, and_self, true_and, if_false, if_true]; exact h.g_now)
  (g_trips := by simp only [ui_ap, cc_ne, cc_n0, cc_0n, Nat.reduceEqDiff, reduceCtorEq, false_and, and_false, and_self, true_and, if_false, if_true]; exact h.g_trips)
  (g_texts := by simp only [ui_ap, cc_ne, cc_n0, cc_0n, Nat.reduceEqDiff, reduceCtorEq, false_and, and_false, and_self, true_and, if_false, if_true]; exact h.g_texts)
  (g_size := by simp only [ui_ap, cc_ne, cc_n0, cc_0n, Nat.reduceEqDiff, reduceCtorEq, false_and, and_false, and_self, true_and, if_false, if_true]; exact h.g_size)
  (g_code := by simp only [ui_ap, cc_ne, cc_n0, cc_0n, Nat.reduceEqDiff, reduceCtorEq, false_and, and_false, and_self, true_and, if_false, if_true]; exact h.g_code)
  (g_at := by simp only [ui_ap, cc_ne, cc_n0, cc_0n, Nat.reduceEqDiff, reduceCtorEq, false_and, and_false, and_self, true_and, if_false, if_true]; exact h.g_at)
  (g_asks := by simp only [ui_ap, cc_ne, cc_n0, cc_0n, Nat.reduceEqDiff, reduceCtorEq, false_and, and_false, and_self, true_and, if_false, if_true]; exact h.g_asks)
  (g_benches := by simp only [ui_ap, cc_ne, cc_n0, cc_0n, Nat.reduceEqDiff, reduceCtorEq, false_and, and_false, and_self, true_and, if_false, if_true]; exact h.g_benches)
  (g_orderSize := by simp only [ui_ap, cc_ne, cc_n0, cc_0n, Nat.reduceEqDiff, reduceCtorEq, false_and, and_false, and_self, true_and, if_false, if_true]; exact h.g_orderSize)
  (g_passed := by simp only [ui_ap, cc_ne, cc_n0, cc_0n, Nat.reduceEqDiff, reduceCtorEq, false_and, and_false, and_self, true_and, if_false, if_true]; exact h.g_passed)
  (g_best := by simp only [ui_ap, cc_ne, cc_n0, cc_0n, Nat.reduceEqDiff, reduceCtorEq, false_and, and_false, and_self, true_and, if_false, if_true]; exact h.g_best)
  (g_circle := by simp only [ui_ap, cc_ne, cc_n0, cc_0n, Nat.reduceEqDiff, reduceCtorEq, false_and, and_false, and_self, true_and, if_false, if_true]; exact h.g_circle)
  (g_row := by simp only [ui_ap, cc_ne, cc_n0, cc_0n, Nat.reduceEqDiff, reduceCtorEq, false_and, and_false, and_self, true_and, if_false, if_true]; exact h.g_row)
  (g_rest := by simp only [ui_ap, cc_ne, cc_n0, cc_0n, Nat.reduceEqDiff, reduceCtorEq, false_and, and_false, and_self, true_and, if_false, if_true]; exact h.g_rest)
  (g_lost := by simp only [ui_ap, cc_ne, cc_n0, cc_0n, Nat.reduceEqDiff, reduceCtorEq, false_and, and_false, and_self, true_and, if_false, if_true]; exact h.g_lost)
  (g_spots := by simp only [ui_ap, cc_ne, cc_n0, cc_0n, Nat.reduceEqDiff, reduceCtorEq, false_and, and_false, and_self, true_and, if_false, if_true]; exact h.g_spots)
  (g_ask := fun a ha => by
    have q := h.g_ask a ha
    have e : ¬ a = C + 12 := by omega
    simp only [ui_ap, e, false_and, if_false]
    exact q)
  (g_bnc := fun b hb => by
    have q := h.g_bnc b hb
    have e : ¬ b = C + 12 := by omega
    simp only [ui_ap, e, false_and, if_false]
    exact q)
  (g_txt := h.g_txt)
  (g_asksR := h.g_asksR)
  (g_asksN := by simp only [ui_ap, cc_ne, cc_n0, cc_0n, Nat.reduceEqDiff, reduceCtorEq, false_and, and_false, and_self, true_and, if_false, if_true]; exact h.g_asksN)
  (g_benchesR := h.g_benchesR)
  (g_textsR := h.g_textsR)
  (g_orderR := h.g_orderR)
  (g_bestR := h.g_bestR)
  (g_ringR := h.g_ringR)
  (g_draft := h.g_draft)
  (g_benN := by simp only [ui_ap, cc_ne, cc_n0, cc_0n, Nat.reduceEqDiff, reduceCtorEq, false_and, and_false, and_self, true_and, if_false, if_true]; exact h.g_benN)
  (g_benY := by simp only [ui_ap, cc_ne, cc_n0, cc_0n, Nat.reduceEqDiff, reduceCtorEq, false_and, and_false, and_self, true_and, if_false, if_true]; exact h.g_benY)
theorem sT_Tape_code (h : cT C K L J R) {k : Nat} {v : Int32} : cT C K L (a_ui J (C + 13) k v) R := cT_mk
  (s := h.s)
  (g_now := by simp only [ui_ap, cc_ne, cc_n0, cc_0n, Nat.reduceEqDiff, reduceCtorEq, false_and, and_false, and_self, true_and, if_false, if_true]; exact h.g_now)
  (g_trips := by simp only [ui_ap, cc_ne, cc_n0, cc_0n, Nat.reduceEqDiff, reduceCtorEq, false_and, and_false, and_self, true_and, if_false, if_true]; exact h.g_trips)
  (g_texts := by simp only [ui_ap, cc_ne, cc_n0, cc_0n, Nat.reduceEqDiff, reduceCtorEq, false_and, and_false, and_self, true_and, if_false, if_true]; exact h.g_texts)
  (g_size := by simp only [ui_ap, cc_ne, cc_n0, cc_0n, Nat.reduceEqDiff, reduceCtorEq, false_and, and_false, and_self, true_and, if_false, if_true]; exact h.g_size)
  (g_code := by simp only [ui_ap, cc_ne, cc_n0, cc_0n, Nat.reduceEqDiff, reduceCtorEq, false_and, and_false, and_self, true_and, if_false, if_true]; exact h.g_code)
  (g_at := by simp only [ui_ap, cc_ne, cc_n0, cc_0n, Nat.reduceEqDiff, reduceCtorEq, false_and, and_false, and_self, true_and, if_false, if_true]; exact h.g_at)
  (g_asks := by simp only [ui_ap, cc_ne, cc_n0, cc_0n, Nat.reduceEqDiff, reduceCtorEq, false_and, and_false, and_self, true_and, if_false, if_true]; exact h.g_asks)
  (g_benches := by simp only [ui_ap, cc_ne, cc_n0, cc_0n, Nat.reduceEqDiff, reduceCtorEq, false_and, and_false, and_self, true_and, if_false, if_true]; exact h.g_benches)
  (g_orderSize := by simp only [ui_ap, cc_ne, cc_n0, cc_0n, Nat.reduceEqDiff, reduceCtorEq, false_and, and_false, and_self, true_and, if_false, if_true]; exact h.g_orderSize)
  (g_passed := by simp only [ui_ap, cc_ne, cc_n0, cc_0n, Nat.reduceEqDiff, reduceCtorEq, false_and, and_false, and_self, true_and, if_false, if_true]; exact h.g_passed)
  (g_best := by simp only [ui_ap, cc_ne, cc_n0, cc_0n, Nat.reduceEqDiff, reduceCtorEq, false_and, and_false, and_self, true_and, if_false, if_true]; exact h.g_best)
  (g_circle := by simp only [ui_ap, cc_ne, cc_n0, cc_0n, Nat.reduceEqDiff, reduceCtorEq, false_and, and_false, and_self, true_and, if_false, if_true]; exact h.g_circle)
  (g_row := by simp only [ui_ap, cc_ne, cc_n0, cc_0n, Nat.reduceEqDiff, reduceCtorEq, false_and, and_false, and_self, true_and, if_false, if_true]; exact h.g_row)
  (g_rest := by simp only [ui_ap, cc_ne, cc_n0, cc_0n, Nat.reduceEqDiff, reduceCtorEq, false_and, and_false, and_self, true_and, if_false, if_true]; exact h.g_rest)
  (g_lost := by simp only [ui_ap, cc_ne, cc_n0, cc_0n, Nat.reduceEqDiff, reduceCtorEq, false_and, and_false, and_self, true_and, if_false, if_true]; exact h.g_lost)
  (g_spots := by simp only [ui_ap, cc_ne, cc_n0, cc_0n, Nat.reduceEqDiff, reduceCtorEq, false_and, and_false, and_self, true_and, if_false, if_true]; exact h.g_spots)
  (g_ask := fun a ha => by
    have q := h.g_ask a ha
    have e : ¬ a = C + 13 := by omega
    simp only [ui_ap, e, false_and, if_false]
    exact q)
  (g_bnc := fun b hb => by
    have q := h.g_bnc b hb
    have e : ¬ b = C + 13 := by omega
    simp only [ui_ap, e, false_and, if_false]
    exact q)
  (g_txt := h.g_txt)
  (g_asksR := h.g_asksR)
  (g_asksN := by simp only [ui_ap, cc_ne, cc_n0, cc_0n, Nat.reduceEqDiff, reduceCtorEq, false_and, and_false, and_self, true_and, if_false, if_true]; exact h.g_asksN)
  (g_benchesR := h.g_benchesR)
  (g_textsR := h.g_textsR)
  (g_orderR := h.g_orderR)
  (g_bestR := h.g_bestR)
  (g_ringR := h.g_ringR)
  (g_draft := h.g_draft)
  (g_benN := by simp only [ui_ap, cc_ne, cc_n0, cc_0n, Nat.reduceEqDiff, reduceCtorEq, false_and, and_false, and_self, true_and, if_false, if_true]; exact h.g_benN)
  (g_benY := by simp only [ui_ap, cc_ne, cc_n0, cc_0n, Nat.reduceEqDiff, reduceCtorEq, false_and, and_false, and_self, true_and, if_false, if_true]; exact h.g_benY)
theorem sT_Panel_kin (h : cT C K L J R) {k : Nat} {v : Int32} : cT C K L (a_ui J (C + 18) k v) R := cT_mk
  (s := h.s)
  (g_now := by simp only [ui_ap, cc_ne, cc_n0, cc_0n, Nat.reduceEqDiff, reduceCtorEq, false_and, and_false, and_self, true_and, if_false, if_true]; exact h.g_now)
  (g_trips := by simp only [ui_ap, cc_ne, cc_n0, cc_0n, Nat.reduceEqDiff, reduceCtorEq, false_and, and_false, and_self, true_and, if_false, if_true]; exact h.g_trips)
  (g_texts := by simp only [ui_ap, cc_ne, cc_n0, cc_0n, Nat.reduceEqDiff, reduceCtorEq, false_and, and_false, and_self, true_and, if_false, if_true]; exact h.g_texts)
  (g_size := by simp only [ui_ap, cc_ne, cc_n0, cc_0n, Nat.reduceEqDiff, reduceCtorEq, false_and, and_false, and_self, true_and, if_false, if_true]; exact h.g_size)
  (g_code := by simp only [ui_ap, cc_ne, cc_n0, cc_0n, Nat.reduceEqDiff, reduceCtorEq, false_and, and_false, and_self, true_and, if_false, if_true]; exact h.g_code)
  (g_at := by simp only [ui_ap, cc_ne, cc_n0, cc_0n, Nat.reduceEqDiff, reduceCtorEq, false_and, and_false, and_self, true_and, if_false, if_true]; exact h.g_at)
  (g_asks := by simp only [ui_ap, cc_ne, cc_n0, cc_0n, Nat.reduceEqDiff, reduceCtorEq, false_and, and_false, and_self, true_and, if_false, if_true]; exact h.g_asks)
  (g_benches := by simp only [ui_ap, cc_ne, cc_n0, cc_0n, Nat.reduceEqDiff, reduceCtorEq, false_and, and_false, and_self, true_and, if_false, if_true]; exact h.g_benches)
  (g_orderSize := by simp only [ui_ap, cc_ne, cc_n0, cc_0n, Nat.reduceEqDiff, reduceCtorEq, false_and, and_false, and_self, true_and, if_false, if_true]; exact h.g_orderSize)
  (g_passed := by simp only [ui_ap, cc_ne, cc_n0, cc_0n, Nat.reduceEqDiff, reduceCtorEq, false_and, and_false, and_self, true_and, if_false, if_true]; exact h.g_passed)
  (g_best := by simp only [ui_ap, cc_ne, cc_n0, cc_0n, Nat.reduceEqDiff, reduceCtorEq, false_and, and_false, and_self, true_and, if_false, if_true]; exact h.g_best)
  (g_circle := by simp only [ui_ap, cc_ne, cc_n0, cc_0n, Nat.reduceEqDiff, reduceCtorEq, false_and, and_false, and_self, true_and, if_false, if_true]; exact h.g_circle)
  (g_row := by simp only [ui_ap, cc_ne, cc_n0, cc_0n, Nat.reduceEqDiff, reduceCtorEq, false_and, and_false, and_self, true_and, if_false, if_true]; exact h.g_row)
  (g_rest := by simp only [ui_ap, cc_ne, cc_n0, cc_0n, Nat.reduceEqDiff, reduceCtorEq, false_and, and_false, and_self, true_and, if_false, if_true]; exact h.g_rest)
  (g_lost := by simp only [ui_ap, cc_ne, cc_n0, cc_0n, Nat.reduceEqDiff, reduceCtorEq, false_and, and_false, and_self, true_and, if_false, if_true]; exact h.g_lost)
  (g_spots := by simp only [ui_ap, cc_ne, cc_n0, cc_0n, Nat.reduceEqDiff, reduceCtorEq, false_and, and_false, and_self, true_and, if_false, if_true]; exact h.g_spots)
  (g_ask := fun a ha => by
    have q := h.g_ask a ha
    have e : ¬ a = C + 18 := by omega
    simp only [ui_ap, e, false_and, if_false]
    exact q)
  (g_bnc := fun b hb => by
    have q := h.g_bnc b hb
    have e : ¬ b = C + 18 := by omega
    simp only [ui_ap, e, false_and, if_false]
    exact q)
  (g_txt := h.g_txt)
  (g_asksR := h.g_asksR)
  (g_asksN := by simp only [ui_ap, cc_ne, cc_n0, cc_0n, Nat.reduceEqDiff, reduceCtorEq, false_and, and_false, and_self, true_and, if_false, if_true]; exact h.g_asksN)
  (g_benchesR := h.g_benchesR)
  (g_textsR := h.g_textsR)
  (g_orderR := h.g_orderR)
  (g_bestR := h.g_bestR)
  (g_ringR := h.g_ringR)
  (g_draft := h.g_draft)
  (g_benN := by simp only [ui_ap, cc_ne, cc_n0, cc_0n, Nat.reduceEqDiff, reduceCtorEq, false_and, and_false, and_self, true_and, if_false, if_true]; exact h.g_benN)
  (g_benY := by simp only [ui_ap, cc_ne, cc_n0, cc_0n, Nat.reduceEqDiff, reduceCtorEq, false_and, and_false, and_self, true_and, if_false, if_true]; exact h.g_benY)
theorem sT_Panel_told (h : cT C K L J R) {k : Nat} {v : Int32} : cT C K L (a_ui J (C + 19) k v) R := cT_mk
  (s := h.s)
  (g_now := by simp only [ui_ap, cc_ne, cc_n0, cc_0n, Nat.reduceEqDiff, reduceCtorEq, false_and, and_false, and_self, true_and, if_false, if_true]; exact h.g_now)
  (g_trips := by simp only [ui_ap, cc_ne, cc_n0, cc_0n, Nat.reduceEqDiff, reduceCtorEq, false_and, and_false, and_self, true_and, if_false, if_true]; exact h.g_trips)
  (g_texts := by simp only [ui_ap, cc_ne, cc_n0, cc_0n, Nat.reduceEqDiff, reduceCtorEq, false_and, and_false, and_self, true_and, if_false, if_true]; exact h.g_texts)
  (g_size := by simp only [ui_ap, cc_ne, cc_n0, cc_0n, Nat.reduceEqDiff, reduceCtorEq, false_and, and_false, and_self, true_and, if_false, if_true]; exact h.g_size)
  (g_code := by simp only [ui_ap, cc_ne, cc_n0, cc_0n, Nat.reduceEqDiff, reduceCtorEq, false_and, and_false, and_self, true_and, if_false, if_true]; exact h.g_code)
  (g_at := by simp only [ui_ap, cc_ne, cc_n0, cc_0n, Nat.reduceEqDiff, reduceCtorEq, false_and, and_false, and_self, true_and, if_false, if_true]; exact h.g_at)
  (g_asks := by simp only [ui_ap, cc_ne, cc_n0, cc_0n, Nat.reduceEqDiff, reduceCtorEq, false_and, and_false, and_self, true_and, if_false, if_true]; exact h.g_asks)
  (g_benches := by simp only [ui_ap, cc_ne, cc_n0, cc_0n, Nat.reduceEqDiff, reduceCtorEq, false_and, and_false, and_self, true_and, if_false, if_true]; exact h.g_benches)
  (g_orderSize := by simp only [ui_ap, cc_ne, cc_n0, cc_0n, Nat.reduceEqDiff, reduceCtorEq, false_and, and_false, and_self, true_and, if_false, if_true]; exact h.g_orderSize)
  (g_passed := by simp only [ui_ap, cc_ne, cc_n0, cc_0n, Nat.reduceEqDiff, reduceCtorEq, false_and, and_false, and_self, true_and, if_false, if_true]; exact h.g_passed)
  (g_best := by simp only [ui_ap, cc_ne, cc_n0, cc_0n, Nat.reduceEqDiff, reduceCtorEq, false_and, and_false, and_self, true_and, if_false, if_true]; exact h.g_best)
  (g_circle := by simp only [ui_ap, cc_ne, cc_n0, cc_0n, Nat.reduceEqDiff, reduceCtorEq, false_and, and_false, and_self, true_and, if_false, if_true]; exact h.g_circle)
  (g_row := by simp only [ui_ap, cc_ne, cc_n0, cc_0n, Nat.reduceEqDiff, reduceCtorEq, false_and, and_false, and_self, true_and, if_false, if_true]; exact h.g_row)
  (g_rest := by simp only [ui_ap, cc_ne, cc_n0, cc_0n, Nat.reduceEqDiff, reduceCtorEq, false_and, and_false, and_self, true_and, if_false, if_true]; exact h.g_rest)
  (g_lost := by simp only [ui_ap, cc_ne, cc_n0, cc_0n, Nat.reduceEqDiff, reduceCtorEq, false_and, and_false, and_self, true_and, if_false, if_true]; exact h.g_lost)
  (g_spots := by simp only [ui_ap, cc_ne, cc_n0, cc_0n, Nat.reduceEqDiff, reduceCtorEq, false_and, and_false, and_self, true_and, if_false, if_true]; exact h.g_spots)
  (g_ask := fun a ha => by
    have q := h.g_ask a ha
    have e : ¬ a = C + 19 := by omega
    simp only [ui_ap, e, false_and, if_false]
    exact q)
  (g_bnc := fun b hb => by
    have q := h.g_bnc b hb
    have e : ¬ b = C + 19 := by omega
    simp only [ui_ap, e, false_and, if_false]
    exact q)
  (g_txt := h.g_txt)
  (g_asksR := h.g_asksR)
  (g_asksN := by simp only [ui_ap, cc_ne, cc_n0, cc_0n, Nat.reduceEqDiff, reduceCtorEq, false_and, and_false, and_self, true_and, if_false, if_true]; exact h.g_asksN)
  (g_benchesR := h.g_benchesR)
  (g_textsR := h.g_textsR)
  (g_orderR := h.g_orderR)
  (g_bestR := h.g_bestR)
  (g_ringR := h.g_ringR)
  (g_draft := h.g_draft)
  (g_benN := by simp only [ui_ap, cc_ne, cc_n0, cc_0n, Nat.reduceEqDiff, reduceCtorEq, false_and, and_false, and_self, true_and, if_false, if_true]; exact h.g_benN)
  (g_benY := by simp only [ui_ap, cc_ne, cc_n0, cc_0n, Nat.reduceEqDiff, reduceCtorEq, false_and, and_false, and_self, true_and, if_false, if_true]; exact h.g_benY)
theorem sT_Panel_marks (h : cT C K L J R) {k : Nat} {v : Int32} : cT C K L (a_ui J (C + 20) k v) R := cT_mk
  (s := h.s)
  (g_now := by simp only [ui_ap, cc_ne, cc_n0, cc_0n, Nat.reduceEqDiff, reduceCtorEq, false_and, and_false, and_self, true_and, if_false, if_true]; exact h.g_now)
  (g_trips := by simp only [ui_ap, cc_ne, cc_n0, cc_0n, Nat.reduceEqDiff, reduceCtorEq, false_and, and_false, and_self, true_and, if_false, if_true]; exact h.g_trips)
  (g_texts := by simp only [ui_ap, cc_ne, cc_n0, cc_0n, Nat.reduceEqDiff, reduceCtorEq, false_and, and_false, and_self, true_and, if_false, if_true]; exact h.g_texts)
  (g_size := by simp only [ui_ap, cc_ne, cc_n0, cc_0n, Nat.reduceEqDiff, reduceCtorEq, false_and, and_false, and_self, true_and, if_false, if_true]; exact h.g_size)
  (g_code := by simp only [ui_ap, cc_ne, cc_n0, cc_0n, Nat.reduceEqDiff, reduceCtorEq, false_and, and_false, and_self, true_and, if_false, if_true]; exact h.g_code)
  (g_at := by simp only [ui_ap, cc_ne, cc_n0, cc_0n, Nat.reduceEqDiff, reduceCtorEq, false_and, and_false, and_self, true_and, if_false, if_true]; exact h.g_at)
  (g_asks := by simp only [ui_ap, cc_ne, cc_n0, cc_0n, Nat.reduceEqDiff, reduceCtorEq, false_and, and_false, and_self, true_and, if_false, if_true]; exact h.g_asks)
  (g_benches := by simp only [ui_ap, cc_ne, cc_n0, cc_0n, Nat.reduceEqDiff, reduceCtorEq, false_and, and_false, and_self, true_and, if_false, if_true]; exact h.g_benches)
  (g_orderSize := by simp only [ui_ap, cc_ne, cc_n0, cc_0n, Nat.reduceEqDiff, reduceCtorEq, false_and, and_false, and_self, true_and, if_false, if_true]; exact h.g_orderSize)
  (g_passed := by simp only [ui_ap, cc_ne, cc_n0, cc_0n, Nat.reduceEqDiff, reduceCtorEq, false_and, and_false, and_self, true_and, if_false, if_true]; exact h.g_passed)
  (g_best := by simp only [ui_ap, cc_ne, cc_n0, cc_0n, Nat.reduceEqDiff, reduceCtorEq, false_and, and_false, and_self, true_and, if_false, if_true]; exact h.g_best)
  (g_circle := by simp only [ui_ap, cc_ne, cc_n0, cc_0n, Nat.reduceEqDiff, reduceCtorEq, false_and, and_false, and_self, true_and, if_false, if_true]; exact h.g_circle)
  (g_row := by simp only [ui_ap, cc_ne, cc_n0, cc_0n, Nat.reduceEqDiff, reduceCtorEq, false_and, and_false, and_self, true_and, if_false, if_true]; exact h.g_row)
  (g_rest := by simp only [ui_ap, cc_ne, cc_n0, cc_0n, Nat.reduceEqDiff, reduceCtorEq, false_and, and_false, and_self, true_and, if_false, if_true]; exact h.g_rest)
  (g_lost := by simp only [ui_ap, cc_ne, cc_n0, cc_0n, Nat.reduceEqDiff, reduceCtorEq, false_and, and_false, and_self, true_and, if_false, if_true]; exact h.g_lost)
  (g_spots := by simp only [ui_ap, cc_ne, cc_n0, cc_0n, Nat.reduceEqDiff, reduceCtorEq, false_and, and_false, and_self, true_and, if_false, if_true]; exact h.g_spots)
  (g_ask := fun a ha => by
    have q := h.g_ask a ha
    have e : ¬ a = C + 20 := by omega
    simp only [ui_ap, e, false_and, if_false]
    exact q)
  (g_bnc := fun b hb => by
    have q := h.g_bnc b hb
    have e : ¬ b = C + 20 := by omega
    simp only [ui_ap, e, false_and, if_false]
    exact q)
  (g_txt := h.g_txt)
  (g_asksR := h.g_asksR)
  (g_asksN := by simp only [ui_ap, cc_ne, cc_n0, cc_0n, Nat.reduceEqDiff, reduceCtorEq, false_and, and_false, and_self, true_and, if_false, if_true]; exact h.g_asksN)
  (g_benchesR := h.g_benchesR)
  (g_textsR := h.g_textsR)
  (g_orderR := h.g_orderR)
  (g_bestR := h.g_bestR)
  (g_ringR := h.g_ringR)
  (g_draft := h.g_draft)
  (g_benN := by simp only [ui_ap, cc_ne, cc_n0, cc_0n, Nat.reduceEqDiff, reduceCtorEq, false_and, and_false, and_self, true_and, if_false, if_true]; exact h.g_benN)
  (g_benY := by simp only [ui_ap, cc_ne, cc_n0, cc_0n, Nat.reduceEqDiff, reduceCtorEq, false_and, and_false, and_self, true_and, if_false, if_true]; exact h.g_benY)
theorem sT_Panel_habits (h : cT C K L J R) {k : Nat} {v : Int32} : cT C K L (a_ui J (C + 21) k v) R := cT_mk
  (s := h.s)
  (g_now := by simp only [ui_ap, cc_ne, cc_n0, cc_0n, Nat.reduceEqDiff, reduceCtorEq, false_and, and_false, and_self, true_and, if_false, if_true]; exact h.g_now)
  (g_trips := by simp only [ui_ap, cc_ne, cc_n0, cc_0n, Nat.reduceEqDiff, reduceCtorEq, false_and, and_false, and_self, true_and, if_false, if_true]; exact h.g_trips)
  (g_texts := by simp only [ui_ap, cc_ne, cc_n0, cc_0n, Nat.reduceEqDiff, reduceCtorEq, false_and, and_false, and_self, true_and, if_false, if_true]; exact h.g_texts)
  (g_size := by simp only [ui_ap, cc_ne, cc_n0, cc_0n, Nat.reduceEqDiff, reduceCtorEq, false_and, and_false, and_self, true_and, if_false, if_true]; exact h.g_size)
  (g_code := by simp only [ui_ap, cc_ne, cc_n0, cc_0n, Nat.reduceEqDiff, reduceCtorEq, false_and, and_false, and_self, true_and, if_false, if_true]; exact h.g_code)
  (g_at := by simp only [ui_ap, cc_ne, cc_n0, cc_0n, Nat.reduceEqDiff, reduceCtorEq, false_and, and_false, and_self, true_and, if_false, if_true]; exact h.g_at)
  (g_asks := by simp only [ui_ap, cc_ne, cc_n0, cc_0n, Nat.reduceEqDiff, reduceCtorEq, false_and, and_false, and_self, true_and, if_false, if_true]; exact h.g_asks)
  (g_benches := by simp only [ui_ap, cc_ne, cc_n0, cc_0n, Nat.reduceEqDiff, reduceCtorEq, false_and, and_false, and_self, true_and, if_false, if_true]; exact h.g_benches)
  (g_orderSize := by simp only [ui_ap, cc_ne, cc_n0, cc_0n, Nat.reduceEqDiff, reduceCtorEq, false_and, and_false, and_self, true_and, if_false, if_true]; exact h.g_orderSize)
  (g_passed := by simp only [ui_ap, cc_ne, cc_n0, cc_0n, Nat.reduceEqDiff, reduceCtorEq, false_and, and_false, and_self, true_and, if_false, if_true]; exact h.g_passed)
  (g_best := by simp only [ui_ap, cc_ne, cc_n0, cc_0n, Nat.reduceEqDiff, reduceCtorEq, false_and, and_false, and_self, true_and, if_false, if_true]; exact h.g_best)
  (g_circle := by simp only [ui_ap, cc_ne, cc_n0, cc_0n, Nat.reduceEqDiff, reduceCtorEq, false_and, and_false, and_self, true_and, if_false, if_true]; exact h.g_circle)
  (g_row := by simp only [ui_ap, cc_ne, cc_n0, cc_0n, Nat.reduceEqDiff, reduceCtorEq, false_and, and_false, and_self, true_and, if_false, if_true]; exact h.g_row)
  (g_rest := by simp only [ui_ap, cc_ne, cc_n0, cc_0n, Nat.reduceEqDiff, reduceCtorEq, false_and, and_false, and_self, true_and, if_false, if_true]; exact h.g_rest)
  (g_lost := by simp only [ui_ap, cc_ne, cc_n0, cc_0n, Nat.reduceEqDiff, reduceCtorEq, false_and, and_false, and_self, true_and, if_false, if_true]; exact h.g_lost)
  (g_spots := by simp only [ui_ap, cc_ne, cc_n0, cc_0n, Nat.reduceEqDiff, reduceCtorEq, false_and, and_false, and_self, true_and, if_false, if_true]; exact h.g_spots)
  (g_ask := fun a ha => by
    have q := h.g_ask a ha
    have e : ¬ a = C + 21 := by omega
    simp only [ui_ap, e, false_and, if_false]
    exact q)
  (g_bnc := fun b hb => by
    have q := h.g_bnc b hb
    have e : ¬ b = C + 21 := by omega
    simp only [ui_ap, e, false_and, if_false]
    exact q)
  (g_txt := h.g_txt)
  (g_asksR := h.g_asksR)
  (g_asksN := by simp only [ui_ap, cc_ne, cc_n0, cc_0n, Nat.reduceEqDiff, reduceCtorEq, false_and, and_false, and_self, true_and, if_false, if_true]; exact h.g_asksN)
  (g_benchesR := h.g_benchesR)
  (g_textsR := h.g_textsR)
  (g_orderR := h.g_orderR)
  (g_bestR := h.g_bestR)
  (g_ringR := h.g_ringR)
  (g_draft := h.g_draft)
  (g_benN := by simp only [ui_ap, cc_ne, cc_n0, cc_0n, Nat.reduceEqDiff, reduceCtorEq, false_and, and_false, and_self, true_and, if_false, if_true]; exact h.g_benN)
  (g_benY := by simp only [ui_ap, cc_ne, cc_n0, cc_0n, Nat.reduceEqDiff, reduceCtorEq, false_and, and_false, and_self, true_and, if_false, if_true]; exact h.g_benY)
theorem sT_Planner_passed (h : cT C K L J R) {k : Nat} {v : Int32} : cT C K L (a_ui J (C + 24) k v) R := cT_mk
  (s := h.s)
  (g_now := by simp only [ui_ap, cc_ne, cc_n0, cc_0n, Nat.reduceEqDiff, reduceCtorEq, false_and, and_false, and_self, true_and, if_false, if_true]; exact h.g_now)
  (g_trips := by simp only [ui_ap, cc_ne, cc_n0, cc_0n, Nat.reduceEqDiff, reduceCtorEq, false_and, and_false, and_self, true_and, if_false, if_true]; exact h.g_trips)
  (g_texts := by simp only [ui_ap, cc_ne, cc_n0, cc_0n, Nat.reduceEqDiff, reduceCtorEq, false_and, and_false, and_self, true_and, if_false, if_true]; exact h.g_texts)
  (g_size := by simp only [ui_ap, cc_ne, cc_n0, cc_0n, Nat.reduceEqDiff, reduceCtorEq, false_and, and_false, and_self, true_and, if_false, if_true]; exact h.g_size)
  (g_code := by simp only [ui_ap, cc_ne, cc_n0, cc_0n, Nat.reduceEqDiff, reduceCtorEq, false_and, and_false, and_self, true_and, if_false, if_true]; exact h.g_code)
  (g_at := by simp only [ui_ap, cc_ne, cc_n0, cc_0n, Nat.reduceEqDiff, reduceCtorEq, false_and, and_false, and_self, true_and, if_false, if_true]; exact h.g_at)
  (g_asks := by simp only [ui_ap, cc_ne, cc_n0, cc_0n, Nat.reduceEqDiff, reduceCtorEq, false_and, and_false, and_self, true_and, if_false, if_true]; exact h.g_asks)
  (g_benches := by simp only [ui_ap, cc_ne, cc_n0, cc_0n, Nat.reduceEqDiff, reduceCtorEq, false_and, and_false, and_self, true_and, if_false, if_true]; exact h.g_benches)
  (g_orderSize := by simp only [ui_ap, cc_ne, cc_n0, cc_0n, Nat.reduceEqDiff, reduceCtorEq, false_and, and_false, and_self, true_and, if_false, if_true]; exact h.g_orderSize)
  (g_passed := by simp only [ui_ap, cc_ne, cc_n0, cc_0n, Nat.reduceEqDiff, reduceCtorEq, false_and, and_false, and_self, true_and, if_false, if_true]; exact h.g_passed)
  (g_best := by simp only [ui_ap, cc_ne, cc_n0, cc_0n, Nat.reduceEqDiff, reduceCtorEq, false_and, and_false, and_self, true_and, if_false, if_true]; exact h.g_best)
  (g_circle := by simp only [ui_ap, cc_ne, cc_n0, cc_0n, Nat.reduceEqDiff, reduceCtorEq, false_and, and_false, and_self, true_and, if_false, if_true]; exact h.g_circle)
  (g_row := by simp only [ui_ap, cc_ne, cc_n0, cc_0n, Nat.reduceEqDiff, reduceCtorEq, false_and, and_false, and_self, true_and, if_false, if_true]; exact h.g_row)
  (g_rest := by simp only [ui_ap, cc_ne, cc_n0, cc_0n, Nat.reduceEqDiff, reduceCtorEq, false_and, and_false, and_self, true_and, if_false, if_true]; exact h.g_rest)
  (g_lost := by simp only [ui_ap, cc_ne, cc_n0, cc_0n, Nat.reduceEqDiff, reduceCtorEq, false_and, and_false, and_self, true_and, if_false, if_true]; exact h.g_lost)
  (g_spots := by simp only [ui_ap, cc_ne, cc_n0, cc_0n, Nat.reduceEqDiff, reduceCtorEq, false_and, and_false, and_self, true_and, if_false, if_true]; exact h.g_spots)
  (g_ask := fun a ha => by
    have q := h.g_ask a ha
    have e : ¬ a = C + 24 := by omega
    simp only [ui_ap, e, false_and, if_false]
    exact q)
  (g_bnc := fun b hb => by
    have q := h.g_bnc b hb
    have e : ¬ b = C + 24 := by omega
    simp only [ui_ap, e, false_and, if_false]
    exact q)
  (g_txt := h.g_txt)
  (g_asksR := h.g_asksR)
  (g_asksN := by simp only [ui_ap, cc_ne, cc_n0, cc_0n, Nat.reduceEqDiff, reduceCtorEq, false_and, and_false, and_self, true_and, if_false, if_true]; exact h.g_asksN)
  (g_benchesR := h.g_benchesR)
  (g_textsR := h.g_textsR)
  (g_orderR := h.g_orderR)
  (g_bestR := h.g_bestR)
  (g_ringR := h.g_ringR)
  (g_draft := h.g_draft)
  (g_benN := by simp only [ui_ap, cc_ne, cc_n0, cc_0n, Nat.reduceEqDiff, reduceCtorEq, false_and, and_false, and_self, true_and, if_false, if_true]; exact h.g_benN)
  (g_benY := by simp only [ui_ap, cc_ne, cc_n0, cc_0n, Nat.reduceEqDiff, reduceCtorEq, false_and, and_false, and_self, true_and, if_false, if_true]; exact h.g_benY)
theorem sT_Planner_oldBench (h : cT C K L J R) {k : Nat} {v : Int32} : cT C K L (a_ui J (C + 25) k v) R := cT_mk
  (s := h.s)
  (g_now := by simp only [ui_ap, cc_ne, cc_n0, cc_0n, Nat.reduceEqDiff, reduceCtorEq, false_and, and_false, and_self, true_and, if_false, if_true]; exact h.g_now)
  (g_trips := by simp only [ui_ap, cc_ne, cc_n0, cc_0n, Nat.reduceEqDiff, reduceCtorEq, false_and, and_false, and_self, true_and, if_false, if_true]; exact h.g_trips)
  (g_texts := by simp only [ui_ap, cc_ne, cc_n0, cc_0n, Nat.reduceEqDiff, reduceCtorEq, false_and, and_false, and_self, true_and, if_false, if_true]; exact h.g_texts)
  (g_size := by simp only [ui_ap, cc_ne, cc_n0, cc_0n, Nat.reduceEqDiff, reduceCtorEq, false_and, and_false, and_self, true_and, if_false, if_true]; exact h.g_size)
  (g_code := by simp only [ui_ap, cc_ne, cc_n0, cc_0n, Nat.reduceEqDiff, reduceCtorEq, false_and, and_false, and_self, true_and, if_false, if_true]; exact h.g_code)
  (g_at := by simp only [ui_ap, cc_ne, cc_n0, cc_0n, Nat.reduceEqDiff, reduceCtorEq, false_and, and_false, and_self, true_and, if_false, if_true]; exact h.g_at)
  (g_asks := by simp only [ui_ap, cc_ne, cc_n0, cc_0n, Nat.reduceEqDiff, reduceCtorEq, false_and, and_false, and_self, true_and, if_false, if_true]; exact h.g_asks)
  (g_benches := by simp only [ui_ap, cc_ne, cc_n0, cc_0n, Nat.reduceEqDiff, reduceCtorEq, false_and, and_false, and_self, true_and, if_false, if_true]; exact h.g_benches)
  (g_orderSize := by simp only [ui_ap, cc_ne, cc_n0, cc_0n, Nat.reduceEqDiff, reduceCtorEq, false_and, and_false, and_self, true_and, if_false, if_true]; exact h.g_orderSize)
  (g_passed := by simp only [ui_ap, cc_ne, cc_n0, cc_0n, Nat.reduceEqDiff, reduceCtorEq, false_and, and_false, and_self, true_and, if_false, if_true]; exact h.g_passed)
  (g_best := by simp only [ui_ap, cc_ne, cc_n0, cc_0n, Nat.reduceEqDiff, reduceCtorEq, false_and, and_false, and_self, true_and, if_false, if_true]; exact h.g_best)
  (g_circle := by simp only [ui_ap, cc_ne, cc_n0, cc_0n, Nat.reduceEqDiff, reduceCtorEq, false_and, and_false, and_self, true_and, if_false, if_true]; exact h.g_circle)
  (g_row := by simp only [ui_ap, cc_ne, cc_n0, cc_0n, Nat.reduceEqDiff, reduceCtorEq, false_and, and_false, and_self, true_and, if_false, if_true]; exact h.g_row)
  (g_rest := by simp only [ui_ap, cc_ne, cc_n0, cc_0n, Nat.reduceEqDiff, reduceCtorEq, false_and, and_false, and_self, true_and, if_false, if_true]; exact h.g_rest)
  (g_lost := by simp only [ui_ap, cc_ne, cc_n0, cc_0n, Nat.reduceEqDiff, reduceCtorEq, false_and, and_false, and_self, true_and, if_false, if_true]; exact h.g_lost)
  (g_spots := by simp only [ui_ap, cc_ne, cc_n0, cc_0n, Nat.reduceEqDiff, reduceCtorEq, false_and, and_false, and_self, true_and, if_false, if_true]; exact h.g_spots)
  (g_ask := fun a ha => by
    have q := h.g_ask a ha
    have e : ¬ a = C + 25 := by omega
    simp only [ui_ap, e, false_and, if_false]
    exact q)
  (g_bnc := fun b hb => by
    have q := h.g_bnc b hb
    have e : ¬ b = C + 25 := by omega
    simp only [ui_ap, e, false_and, if_false]
    exact q)
  (g_txt := h.g_txt)
  (g_asksR := h.g_asksR)
  (g_asksN := by simp only [ui_ap, cc_ne, cc_n0, cc_0n, Nat.reduceEqDiff, reduceCtorEq, false_and, and_false, and_self, true_and, if_false, if_true]; exact h.g_asksN)
  (g_benchesR := h.g_benchesR)
  (g_textsR := h.g_textsR)
  (g_orderR := h.g_orderR)
  (g_bestR := h.g_bestR)
  (g_ringR := h.g_ringR)
  (g_draft := h.g_draft)
  (g_benN := by simp only [ui_ap, cc_ne, cc_n0, cc_0n, Nat.reduceEqDiff, reduceCtorEq, false_and, and_false, and_self, true_and, if_false, if_true]; exact h.g_benN)
  (g_benY := by simp only [ui_ap, cc_ne, cc_n0, cc_0n, Nat.reduceEqDiff, reduceCtorEq, false_and, and_false, and_self, true_and, if_false, if_true]; exact h.g_benY)
theorem sT_Planner_oldShift (h : cT C K L J R) {k : Nat} {v : Int32} : cT C K L (a_ui J (C + 26) k v) R := cT_mk
  (s := h.s)
  (g_now := by simp only [ui_ap, cc_ne, cc_n0, cc_0n, Nat.reduceEqDiff, reduceCtorEq, false_and, and_false, and_self, true_and, if_false, if_true]; exact h.g_now)
  (g_trips := by simp only [ui_ap, cc_ne, cc_n0, cc_0n, Nat.reduceEqDiff, reduceCtorEq, false_and, and_false, and_self, true_and, if_false, if_true]; exact h.g_trips)
  (g_texts := by simp only [ui_ap, cc_ne, cc_n0, cc_0n, Nat.reduceEqDiff, reduceCtorEq, false_and, and_false, and_self, true_and, if_false, if_true]; exact h.g_texts)
  (g_size := by simp only [ui_ap, cc_ne, cc_n0, cc_0n, Nat.reduceEqDiff, reduceCtorEq, false_and, and_false, and_self, true_and, if_false, if_true]; exact h.g_size)
  (g_code := by simp only [ui_ap, cc_ne, cc_n0, cc_0n, Nat.reduceEqDiff, reduceCtorEq, false_and, and_false, and_self, true_and, if_false, if_true]; exact h.g_code)
  (g_at := by simp only [ui_ap, cc_ne, cc_n0, cc_0n, Nat.reduceEqDiff, reduceCtorEq, false_and, and_false, and_self, true_and, if_false, if_true]; exact h.g_at)
  (g_asks := by simp only [ui_ap, cc_ne, cc_n0, cc_0n, Nat.reduceEqDiff, reduceCtorEq, false_and, and_false, and_self, true_and, if_false, if_true]; exact h.g_asks)
  (g_benches := by simp only [ui_ap, cc_ne, cc_n0, cc_0n, Nat.reduceEqDiff, reduceCtorEq, false_and, and_false, and_self, true_and, if_false, if_true]; exact h.g_benches)
  (g_orderSize := by simp only [ui_ap, cc_ne, cc_n0, cc_0n, Nat.reduceEqDiff, reduceCtorEq, false_and, and_false, and_self, true_and, if_false, if_true]; exact h.g_orderSize)
  (g_passed := by simp only [ui_ap, cc_ne, cc_n0, cc_0n, Nat.reduceEqDiff, reduceCtorEq, false_and, and_false, and_self, true_and, if_false, if_true]; exact h.g_passed)
  (g_best := by simp only [ui_ap, cc_ne, cc_n0, cc_0n, Nat.reduceEqDiff, reduceCtorEq, false_and, and_false, and_self, true_and, if_false, if_true]; exact h.g_best)
  (g_circle := by simp only [ui_ap, cc_ne, cc_n0, cc_0n, Nat.reduceEqDiff, reduceCtorEq, false_and, and_false, and_self, true_and, if_false, if_true]; exact h.g_circle)
  (g_row := by simp only [ui_ap, cc_ne, cc_n0, cc_0n, Nat.reduceEqDiff, reduceCtorEq, false_and, and_false, and_self, true_and, if_false, if_true]; exact h.g_row)
  (g_rest := by simp only [ui_ap, cc_ne, cc_n0, cc_0n, Nat.reduceEqDiff, reduceCtorEq, false_and, and_false, and_self, true_and, if_false, if_true]; exact h.g_rest)
  (g_lost := by simp only [ui_ap, cc_ne, cc_n0, cc_0n, Nat.reduceEqDiff, reduceCtorEq, false_and, and_false, and_self, true_and, if_false, if_true]; exact h.g_lost)
  (g_spots := by simp only [ui_ap, cc_ne, cc_n0, cc_0n, Nat.reduceEqDiff, reduceCtorEq, false_and, and_false, and_self, true_and, if_false, if_true]; exact h.g_spots)
  (g_ask := fun a ha => by
    have q := h.g_ask a ha
    have e : ¬ a = C + 26 := by omega
    simp only [ui_ap, e, false_and, if_false]
    exact q)
  (g_bnc := fun b hb => by
    have q := h.g_bnc b hb
    have e : ¬ b = C + 26 := by omega
    simp only [ui_ap, e, false_and, if_false]
    exact q)
  (g_txt := h.g_txt)
  (g_asksR := h.g_asksR)
  (g_asksN := by simp only [ui_ap, cc_ne, cc_n0, cc_0n, Nat.reduceEqDiff, reduceCtorEq, false_and, and_false, and_self, true_and, if_false, if_true]; exact h.g_asksN)
  (g_benchesR := h.g_benchesR)
  (g_textsR := h.g_textsR)
  (g_orderR := h.g_orderR)
  (g_bestR := h.g_bestR)
  (g_ringR := h.g_ringR)
  (g_draft := h.g_draft)
  (g_benN := by simp only [ui_ap, cc_ne, cc_n0, cc_0n, Nat.reduceEqDiff, reduceCtorEq, false_and, and_false, and_self, true_and, if_false, if_true]; exact h.g_benN)
  (g_benY := by simp only [ui_ap, cc_ne, cc_n0, cc_0n, Nat.reduceEqDiff, reduceCtorEq, false_and, and_false, and_self, true_and, if_false, if_true]; exact h.g_benY)
theorem sT_Best_spots (h : cT C K L J R) {k : Nat} {v : Int32} : cT C K L (a_ui J (C + 29) k v) R := cT_mk
  (s := h.s)
  (g_now := by simp only [ui_ap, cc_ne, cc_n0, cc_0n, Nat.reduceEqDiff, reduceCtorEq, false_and, and_false, and_self, true_and, if_false, if_true]; exact h.g_now)
  (g_trips := by simp only [ui_ap, cc_ne, cc_n0, cc_0n, Nat.reduceEqDiff, reduceCtorEq, false_and, and_false, and_self, true_and, if_false, if_true]; exact h.g_trips)
  (g_texts := by simp only [ui_ap, cc_ne, cc_n0, cc_0n, Nat.reduceEqDiff, reduceCtorEq, false_and, and_false, and_self, true_and, if_false, if_true]; exact h.g_texts)
  (g_size := by simp only [ui_ap, cc_ne, cc_n0, cc_0n, Nat.reduceEqDiff, reduceCtorEq, false_and, and_false, and_self, true_and, if_false, if_true]; exact h.g_size)
  (g_code := by simp only [ui_ap, cc_ne, cc_n0, cc_0n, Nat.reduceEqDiff, reduceCtorEq, false_and, and_false, and_self, true_and, if_false, if_true]; exact h.g_code)
  (g_at := by simp only [ui_ap, cc_ne, cc_n0, cc_0n, Nat.reduceEqDiff, reduceCtorEq, false_and, and_false, and_self, true_and, if_false, if_true]; exact h.g_at)
  (g_asks := by simp only [ui_ap, cc_ne, cc_n0, cc_0n, Nat.reduceEqDiff, reduceCtorEq, false_and, and_false, and_self, true_and, if_false, if_true]; exact h.g_asks)
  (g_benches := by simp only [ui_ap, cc_ne, cc_n0, cc_0n, Nat.reduceEqDiff, reduceCtorEq, false_and, and_false, and_self, true_and, if_false, if_true]; exact h.g_benches)
  (g_orderSize := by simp only [ui_ap, cc_ne, cc_n0, cc_0n, Nat.reduceEqDiff, reduceCtorEq, false_and, and_false, and_self, true_and, if_false, if_true]; exact h.g_orderSize)
  (g_passed := by simp only [ui_ap, cc_ne, cc_n0, cc_0n, Nat.reduceEqDiff, reduceCtorEq, false_and, and_false, and_self, true_and, if_false, if_true]; exact h.g_passed)
  (g_best := by simp only [ui_ap, cc_ne, cc_n0, cc_0n, Nat.reduceEqDiff, reduceCtorEq, false_and, and_false, and_self, true_and, if_false, if_true]; exact h.g_best)
  (g_circle := by simp only [ui_ap, cc_ne, cc_n0, cc_0n, Nat.reduceEqDiff, reduceCtorEq, false_and, and_false, and_self, true_and, if_false, if_true]; exact h.g_circle)
  (g_row := by simp only [ui_ap, cc_ne, cc_n0, cc_0n, Nat.reduceEqDiff, reduceCtorEq, false_and, and_false, and_self, true_and, if_false, if_true]; exact h.g_row)
  (g_rest := by simp only [ui_ap, cc_ne, cc_n0, cc_0n, Nat.reduceEqDiff, reduceCtorEq, false_and, and_false, and_self, true_and, if_false, if_true]; exact h.g_rest)
  (g_lost := by simp only [ui_ap, cc_ne, cc_n0, cc_0n, Nat.reduceEqDiff, reduceCtorEq, false_and, and_false, and_self, true_and, if_false, if_true]; exact h.g_lost)
  (g_spots := by simp only [ui_ap, cc_ne, cc_n0, cc_0n, Nat.reduceEqDiff, reduceCtorEq, false_and, and_false, and_self, true_and, if_false, if_true]; exact h.g_spots)
  (g_ask := fun a ha => by
    have q := h.g_ask a ha
    have e : ¬ a = C + 29 := by omega
    simp only [ui_ap, e, false_and, if_false]
    exact q)
  (g_bnc := fun b hb => by
    have q := h.g_bnc b hb
    have e : ¬ b = C + 29 := by omega
    simp only [ui_ap, e, false_and, if_false]
    exact q)
  (g_txt := h.g_txt)
  (g_asksR := h.g_asksR)
  (g_asksN := by simp only [ui_ap, cc_ne, cc_n0, cc_0n, Nat.reduceEqDiff, reduceCtorEq, false_and, and_false, and_self, true_and, if_false, if_true]; exact h.g_asksN)
  (g_benchesR := h.g_benchesR)
  (g_textsR := h.g_textsR)
  (g_orderR := h.g_orderR)
  (g_bestR := h.g_bestR)
  (g_ringR := h.g_ringR)
  (g_draft := h.g_draft)
  (g_benN := by simp only [ui_ap, cc_ne, cc_n0, cc_0n, Nat.reduceEqDiff, reduceCtorEq, false_and, and_false, and_self, true_and, if_false, if_true]; exact h.g_benN)
  (g_benY := by simp only [ui_ap, cc_ne, cc_n0, cc_0n, Nat.reduceEqDiff, reduceCtorEq, false_and, and_false, and_self, true_and, if_false, if_true]; exact h.g_benY)
theorem sT_Best_watches (h : cT C K L J R) {k : Nat} {v : Int32} : cT C K L (a_ui J (C + 30) k v) R := cT_mk
  (s := h.s)
  (g_now := by simp only [ui_ap, cc_ne, cc_n0, cc_0n, Nat.reduceEqDiff, reduceCtorEq, false_and, and_false, and_self, true_and, if_false, if_true]; exact h.g_now)
  (g_trips := by simp only [ui_ap, cc_ne, cc_n0, cc_0n, Nat.reduceEqDiff, reduceCtorEq, false_and, and_false, and_self, true_and, if_false, if_true]; exact h.g_trips)
  (g_texts := by simp only [ui_ap, cc_ne, cc_n0, cc_0n, Nat.reduceEqDiff, reduceCtorEq, false_and, and_false, and_self, true_and, if_false, if_true]; exact h.g_texts)
  (g_size := by simp only [ui_ap, cc_ne, cc_n0, cc_0n, Nat.reduceEqDiff, reduceCtorEq, false_and, and_false, and_self, true_and, if_false, if_true]; exact h.g_size)
  (g_code := by simp only [ui_ap, cc_ne, cc_n0, cc_0n, Nat.reduceEqDiff, reduceCtorEq, false_and, and_false, and_self, true_and, if_false, if_true]; exact h.g_code)
  (g_at := by simp only [ui_ap, cc_ne, cc_n0, cc_0n, Nat.reduceEqDiff, reduceCtorEq, false_and, and_false, and_self, true_and, if_false, if_true]; exact h.g_at)
  (g_asks := by simp only [ui_ap, cc_ne, cc_n0, cc_0n, Nat.reduceEqDiff, reduceCtorEq, false_and, and_false, and_self, true_and, if_false, if_true]; exact h.g_asks)
  (g_benches := by simp only [ui_ap, cc_ne, cc_n0, cc_0n, Nat.reduceEqDiff, reduceCtorEq, false_and, and_false, and_self, true_and, if_false, if_true]; exact h.g_benches)
  (g_orderSize := by simp only [ui_ap, cc_ne, cc_n0, cc_0n, Nat.reduceEqDiff, reduceCtorEq, false_and, and_false, and_self, true_and, if_false, if_true]; exact h.g_orderSize)
  (g_passed := by simp only [ui_ap, cc_ne, cc_n0, cc_0n, Nat.reduceEqDiff, reduceCtorEq, false_and, and_false, and_self, true_and, if_false, if_true]; exact h.g_passed)
  (g_best := by simp only [ui_ap, cc_ne, cc_n0, cc_0n, Nat.reduceEqDiff, reduceCtorEq, false_and, and_false, and_self, true_and, if_false, if_true]; exact h.g_best)
  (g_circle := by simp only [ui_ap, cc_ne, cc_n0, cc_0n, Nat.reduceEqDiff, reduceCtorEq, false_and, and_false, and_self, true_and, if_false, if_true]; exact h.g_circle)
  (g_row := by simp only [ui_ap, cc_ne, cc_n0, cc_0n, Nat.reduceEqDiff, reduceCtorEq, false_and, and_false, and_self, true_and, if_false, if_true]; exact h.g_row)
  (g_rest := by simp only [ui_ap, cc_ne, cc_n0, cc_0n, Nat.reduceEqDiff, reduceCtorEq, false_and, and_false, and_self, true_and, if_false, if_true]; exact h.g_rest)
  (g_lost := by simp only [ui_ap, cc_ne, cc_n0, cc_0n, Nat.reduceEqDiff, reduceCtorEq, false_and, and_false, and_self, true_and, if_false, if_true]; exact h.g_lost)
  (g_spots := by simp only [ui_ap, cc_ne, cc_n0, cc_0n, Nat.reduceEqDiff, reduceCtorEq, false_and, and_false, and_self, true_and, if_false, if_true]; exact h.g_spots)
  (g_ask := fun a ha => by
    have q := h.g_ask a ha
    have e : ¬ a = C + 30 := by omega
    simp only [ui_ap, e, false_and, if_false]
    exact q)
  (g_bnc := fun b hb => by
    have q := h.g_bnc b hb
    have e : ¬ b = C + 30 := by omega
    simp only [ui_ap, e, false_and, if_false]
    exact q)
  (g_txt := h.g_txt)
  (g_asksR := h.g_asksR)
  (g_asksN := by simp only [ui_ap, cc_ne, cc_n0, cc_0n, Nat.reduceEqDiff, reduceCtorEq, false_and, and_false, and_self, true_and, if_false, if_true]; exact h.g_asksN)
  (g_benchesR := h.g_benchesR)
  (g_textsR := h.g_textsR)
  (g_orderR := h.g_orderR)
  (g_bestR := h.g_bestR)
  (g_ringR := h.g_ringR)
  (g_draft := h.g_draft)
  (g_benN := by simp only [ui_ap, cc_ne, cc_n0, cc_0n, Nat.reduceEqDiff, reduceCtorEq, false_and, and_false, and_self, true_and, if_false, if_true]; exact h.g_benN)
  (g_benY := by simp only [ui_ap, cc_ne, cc_n0, cc_0n, Nat.reduceEqDiff, reduceCtorEq, false_and, and_false, and_self, true_and, if_false, if_true]; exact h.g_benY)
theorem sT_Best_spotCounts (h : cT C K L J R) {k : Nat} {v : Int32} (hv : 0 ≤ v ∧ v ≤ 48) : cT C K L (a_ui J (C + 31) k v) R := cT_mk
  (s := h.s)
  (g_now := by simp only [ui_ap, cc_ne, cc_n0, cc_0n, Nat.reduceEqDiff, reduceCtorEq, false_and, and_false, and_self, true_and, if_false, if_true]; exact h.g_now)
  (g_trips := by simp only [ui_ap, cc_ne, cc_n0, cc_0n, Nat.reduceEqDiff, reduceCtorEq, false_and, and_false, and_self, true_and, if_false, if_true]; exact h.g_trips)
  (g_texts := by simp only [ui_ap, cc_ne, cc_n0, cc_0n, Nat.reduceEqDiff, reduceCtorEq, false_and, and_false, and_self, true_and, if_false, if_true]; exact h.g_texts)
  (g_size := by simp only [ui_ap, cc_ne, cc_n0, cc_0n, Nat.reduceEqDiff, reduceCtorEq, false_and, and_false, and_self, true_and, if_false, if_true]; exact h.g_size)
  (g_code := by simp only [ui_ap, cc_ne, cc_n0, cc_0n, Nat.reduceEqDiff, reduceCtorEq, false_and, and_false, and_self, true_and, if_false, if_true]; exact h.g_code)
  (g_at := by simp only [ui_ap, cc_ne, cc_n0, cc_0n, Nat.reduceEqDiff, reduceCtorEq, false_and, and_false, and_self, true_and, if_false, if_true]; exact h.g_at)
  (g_asks := by simp only [ui_ap, cc_ne, cc_n0, cc_0n, Nat.reduceEqDiff, reduceCtorEq, false_and, and_false, and_self, true_and, if_false, if_true]; exact h.g_asks)
  (g_benches := by simp only [ui_ap, cc_ne, cc_n0, cc_0n, Nat.reduceEqDiff, reduceCtorEq, false_and, and_false, and_self, true_and, if_false, if_true]; exact h.g_benches)
  (g_orderSize := by simp only [ui_ap, cc_ne, cc_n0, cc_0n, Nat.reduceEqDiff, reduceCtorEq, false_and, and_false, and_self, true_and, if_false, if_true]; exact h.g_orderSize)
  (g_passed := by simp only [ui_ap, cc_ne, cc_n0, cc_0n, Nat.reduceEqDiff, reduceCtorEq, false_and, and_false, and_self, true_and, if_false, if_true]; exact h.g_passed)
  (g_best := by simp only [ui_ap, cc_ne, cc_n0, cc_0n, Nat.reduceEqDiff, reduceCtorEq, false_and, and_false, and_self, true_and, if_false, if_true]; exact h.g_best)
  (g_circle := by simp only [ui_ap, cc_ne, cc_n0, cc_0n, Nat.reduceEqDiff, reduceCtorEq, false_and, and_false, and_self, true_and, if_false, if_true]; exact h.g_circle)
  (g_row := by simp only [ui_ap, cc_ne, cc_n0, cc_0n, Nat.reduceEqDiff, reduceCtorEq, false_and, and_false, and_self, true_and, if_false, if_true]; exact h.g_row)
  (g_rest := by simp only [ui_ap, cc_ne, cc_n0, cc_0n, Nat.reduceEqDiff, reduceCtorEq, false_and, and_false, and_self, true_and, if_false, if_true]; exact h.g_rest)
  (g_lost := by simp only [ui_ap, cc_ne, cc_n0, cc_0n, Nat.reduceEqDiff, reduceCtorEq, false_and, and_false, and_self, true_and, if_false, if_true]; exact h.g_lost)
  (g_spots := fun j => by
    have q := h.g_spots j
    rw [ui_ap]
    split
    · exact hv
    · exact q)
  (g_ask := fun a ha => by
    have q := h.g_ask a ha
    have e : ¬ a = C + 31 := by omega
    simp only [ui_ap, e, false_and, if_false]
    exact q)
  (g_bnc := fun b hb => by
    have q := h.g_bnc b hb
    have e : ¬ b = C + 31 := by omega
    simp only [ui_ap, e, false_and, if_false]
    exact q)
  (g_txt := h.g_txt)
  (g_asksR := h.g_asksR)
  (g_asksN := by simp only [ui_ap, cc_ne, cc_n0, cc_0n, Nat.reduceEqDiff, reduceCtorEq, false_and, and_false, and_self, true_and, if_false, if_true]; exact h.g_asksN)
  (g_benchesR := h.g_benchesR)
  (g_textsR := h.g_textsR)
  (g_orderR := h.g_orderR)
  (g_bestR := h.g_bestR)
  (g_ringR := h.g_ringR)
  (g_draft := h.g_draft)
  (g_benN := by simp only [ui_ap, cc_ne, cc_n0, cc_0n, Nat.reduceEqDiff, reduceCtorEq, false_and, and_false, and_self, true_and, if_false, if_true]; exact h.g_benN)
  (g_benY := by simp only [ui_ap, cc_ne, cc_n0, cc_0n, Nat.reduceEqDiff, reduceCtorEq, false_and, and_false, and_self, true_and, if_false, if_true]; exact h.g_benY)
theorem sT_Best_reach (h : cT C K L J R) {k : Nat} {v : Int32} : cT C K L (a_ui J (C + 32) k v) R := cT_mk
  (s := h.s)
  (g_now := by simp only [ui_ap, cc_ne, cc_n0, cc_0n, Nat.reduceEqDiff, reduceCtorEq, false_and, and_false, and_self, true_and, if_false, if_true]; exact h.g_now)
  (g_trips := by simp only [ui_ap, cc_ne, cc_n0, cc_0n, Nat.reduceEqDiff, reduceCtorEq, false_and, and_false, and_self, true_and, if_false, if_true]; exact h.g_trips)
  (g_texts := by simp only [ui_ap, cc_ne, cc_n0, cc_0n, Nat.reduceEqDiff, reduceCtorEq, false_and, and_false, and_self, true_and, if_false, if_true]; exact h.g_texts)
  (g_size := by simp only [ui_ap, cc_ne, cc_n0, cc_0n, Nat.reduceEqDiff, reduceCtorEq, false_and, and_false, and_self, true_and, if_false, if_true]; exact h.g_size)
  (g_code := by simp only [ui_ap, cc_ne, cc_n0, cc_0n, Nat.reduceEqDiff, reduceCtorEq, false_and, and_false, and_self, true_and, if_false, if_true]; exact h.g_code)
  (g_at := by simp only [ui_ap, cc_ne, cc_n0, cc_0n, Nat.reduceEqDiff, reduceCtorEq, false_and, and_false, and_self, true_and, if_false, if_true]; exact h.g_at)
  (g_asks := by simp only [ui_ap, cc_ne, cc_n0, cc_0n, Nat.reduceEqDiff, reduceCtorEq, false_and, and_false, and_self, true_and, if_false, if_true]; exact h.g_asks)
  (g_benches := by simp only [ui_ap, cc_ne, cc_n0, cc_0n, Nat.reduceEqDiff, reduceCtorEq, false_and, and_false, and_self, true_and, if_false, if_true]; exact h.g_benches)
  (g_orderSize := by simp only [ui_ap, cc_ne, cc_n0, cc_0n, Nat.reduceEqDiff, reduceCtorEq, false_and, and_false, and_self, true_and, if_false, if_true]; exact h.g_orderSize)
  (g_passed := by simp only [ui_ap, cc_ne, cc_n0, cc_0n, Nat.reduceEqDiff, reduceCtorEq, false_and, and_false, and_self, true_and, if_false, if_true]; exact h.g_passed)
  (g_best := by simp only [ui_ap, cc_ne, cc_n0, cc_0n, Nat.reduceEqDiff, reduceCtorEq, false_and, and_false, and_self, true_and, if_false, if_true]; exact h.g_best)
  (g_circle := by simp only [ui_ap, cc_ne, cc_n0, cc_0n, Nat.reduceEqDiff, reduceCtorEq, false_and, and_false, and_self, true_and, if_false, if_true]; exact h.g_circle)
  (g_row := by simp only [ui_ap, cc_ne, cc_n0, cc_0n, Nat.reduceEqDiff, reduceCtorEq, false_and, and_false, and_self, true_and, if_false, if_true]; exact h.g_row)
  (g_rest := by simp only [ui_ap, cc_ne, cc_n0, cc_0n, Nat.reduceEqDiff, reduceCtorEq, false_and, and_false, and_self, true_and, if_false, if_true]; exact h.g_rest)
  (g_lost := by simp only [ui_ap, cc_ne, cc_n0, cc_0n, Nat.reduceEqDiff, reduceCtorEq, false_and, and_false, and_self, true_and, if_false, if_true]; exact h.g_lost)
  (g_spots := by simp only [ui_ap, cc_ne, cc_n0, cc_0n, Nat.reduceEqDiff, reduceCtorEq, false_and, and_false, and_self, true_and, if_false, if_true]; exact h.g_spots)
  (g_ask := fun a ha => by
    have q := h.g_ask a ha
    have e : ¬ a = C + 32 := by omega
    simp only [ui_ap, e, false_and, if_false]
    exact q)
  (g_bnc := fun b hb => by
    have q := h.g_bnc b hb
    have e : ¬ b = C + 32 := by omega
    simp only [ui_ap, e, false_and, if_false]
    exact q)
  (g_txt := h.g_txt)
  (g_asksR := h.g_asksR)
  (g_asksN := by simp only [ui_ap, cc_ne, cc_n0, cc_0n, Nat.reduceEqDiff, reduceCtorEq, false_and, and_false, and_self, true_and, if_false, if_true]; exact h.g_asksN)
  (g_benchesR := h.g_benchesR)
  (g_textsR := h.g_textsR)
  (g_orderR := h.g_orderR)
  (g_bestR := h.g_bestR)
  (g_ringR := h.g_ringR)
  (g_draft := h.g_draft)
  (g_benN := by simp only [ui_ap, cc_ne, cc_n0, cc_0n, Nat.reduceEqDiff, reduceCtorEq, false_and, and_false, and_self, true_and, if_false, if_true]; exact h.g_benN)
  (g_benY := by simp only [ui_ap, cc_ne, cc_n0, cc_0n, Nat.reduceEqDiff, reduceCtorEq, false_and, and_false, and_self, true_and, if_false, if_true]; exact h.g_benY)
theorem sT_Best_tried (h : cT C K L J R) {k : Nat} {v : Int32} : cT C K L (a_ui J (C + 33) k v) R := cT_mk
  (s := h.s)
  (g_now := by simp only [ui_ap, cc_ne, cc_n0, cc_0n, Nat.reduceEqDiff, reduceCtorEq, false_and, and_false, and_self, true_and, if_false, if_true]; exact h.g_now)
  (g_trips := by simp only [ui_ap, cc_ne, cc_n0, cc_0n, Nat.reduceEqDiff, reduceCtorEq, false_and, and_false, and_self, true_and, if_false, if_true]; exact h.g_trips)
  (g_texts := by simp only [ui_ap, cc_ne, cc_n0, cc_0n, Nat.reduceEqDiff, reduceCtorEq, false_and, and_false, and_self, true_and, if_false, if_true]; exact h.g_texts)
  (g_size := by simp only [ui_ap, cc_ne, cc_n0, cc_0n, Nat.reduceEqDiff, reduceCtorEq, false_and, and_false, and_self, true_and, if_false, if_true]; exact h.g_size)
  (g_code := by simp only [ui_ap, cc_ne, cc_n0, cc_0n, Nat.reduceEqDiff, reduceCtorEq, false_and, and_false, and_self, true_and, if_false, if_true]; exact h.g_code)
  (g_at := by simp only [ui_ap, cc_ne, cc_n0, cc_0n, Nat.reduceEqDiff, reduceCtorEq, false_and, and_false, and_self, true_and, if_false, if_true]; exact h.g_at)
  (g_asks := by simp only [ui_ap, cc_ne, cc_n0, cc_0n, Nat.reduceEqDiff, reduceCtorEq, false_and, and_false, and_self, true_and, if_false, if_true]; exact h.g_asks)
  (g_benches := by simp only [ui_ap, cc_ne, cc_n0, cc_0n, Nat.reduceEqDiff, reduceCtorEq, false_and, and_false, and_self, true_and, if_false, if_true]; exact h.g_benches)
  (g_orderSize := by simp only [ui_ap, cc_ne, cc_n0, cc_0n, Nat.reduceEqDiff, reduceCtorEq, false_and, and_false, and_self, true_and, if_false, if_true]; exact h.g_orderSize)
  (g_passed := by simp only [ui_ap, cc_ne, cc_n0, cc_0n, Nat.reduceEqDiff, reduceCtorEq, false_and, and_false, and_self, true_and, if_false, if_true]; exact h.g_passed)
  (g_best := by simp only [ui_ap, cc_ne, cc_n0, cc_0n, Nat.reduceEqDiff, reduceCtorEq, false_and, and_false, and_self, true_and, if_false, if_true]; exact h.g_best)
  (g_circle := by simp only [ui_ap, cc_ne, cc_n0, cc_0n, Nat.reduceEqDiff, reduceCtorEq, false_and, and_false, and_self, true_and, if_false, if_true]; exact h.g_circle)
  (g_row := by simp only [ui_ap, cc_ne, cc_n0, cc_0n, Nat.reduceEqDiff, reduceCtorEq, false_and, and_false, and_self, true_and, if_false, if_true]; exact h.g_row)
  (g_rest := by simp only [ui_ap, cc_ne, cc_n0, cc_0n, Nat.reduceEqDiff, reduceCtorEq, false_and, and_false, and_self, true_and, if_false, if_true]; exact h.g_rest)
  (g_lost := by simp only [ui_ap, cc_ne, cc_n0, cc_0n, Nat.reduceEqDiff, reduceCtorEq, false_and, and_false, and_self, true_and, if_false, if_true]; exact h.g_lost)
  (g_spots := by simp only [ui_ap, cc_ne, cc_n0, cc_0n, Nat.reduceEqDiff, reduceCtorEq, false_and, and_false, and_self, true_and, if_false, if_true]; exact h.g_spots)
  (g_ask := fun a ha => by
    have q := h.g_ask a ha
    have e : ¬ a = C + 33 := by omega
    simp only [ui_ap, e, false_and, if_false]
    exact q)
  (g_bnc := fun b hb => by
    have q := h.g_bnc b hb
    have e : ¬ b = C + 33 := by omega
    simp only [ui_ap, e, false_and, if_false]
    exact q)
  (g_txt := h.g_txt)
  (g_asksR := h.g_asksR)
  (g_asksN := by simp only [ui_ap, cc_ne, cc_n0, cc_0n, Nat.reduceEqDiff, reduceCtorEq, false_and, and_false, and_self, true_and, if_false, if_true]; exact h.g_asksN)
  (g_benchesR := h.g_benchesR)
  (g_textsR := h.g_textsR)
  (g_orderR := h.g_orderR)
  (g_bestR := h.g_bestR)
  (g_ringR := h.g_ringR)
  (g_draft := h.g_draft)
  (g_benN := by simp only [ui_ap, cc_ne, cc_n0, cc_0n, Nat.reduceEqDiff, reduceCtorEq, false_and, and_false, and_self, true_and, if_false, if_true]; exact h.g_benN)
  (g_benY := by simp only [ui_ap, cc_ne, cc_n0, cc_0n, Nat.reduceEqDiff, reduceCtorEq, false_and, and_false, and_self, true_and, if_false, if_true]; exact h.g_benY)
theorem sT_Circle_wishes (h : cT C K L J R) {k : Nat} {v : Int32} : cT C K L (a_ui J (C + 36) k v) R := cT_mk
  (s := h.s)
  (g_now := by simp only [ui_ap, cc_ne, cc_n0, cc_0n, Nat.reduceEqDiff, reduceCtorEq, false_and, and_false, and_self, true_and, if_false, if_true]; exact h.g_now)
  (g_trips := by simp only [ui_ap, cc_ne, cc_n0, cc_0n, Nat.reduceEqDiff, reduceCtorEq, false_and, and_false, and_self, true_and, if_false, if_true]; exact h.g_trips)
  (g_texts := by simp only [ui_ap, cc_ne, cc_n0, cc_0n, Nat.reduceEqDiff, reduceCtorEq, false_and, and_false, and_self, true_and, if_false, if_true]; exact h.g_texts)
  (g_size := by simp only [ui_ap, cc_ne, cc_n0, cc_0n, Nat.reduceEqDiff, reduceCtorEq, false_and, and_false, and_self, true_and, if_false, if_true]; exact h.g_size)
  (g_code := by simp only [ui_ap, cc_ne, cc_n0, cc_0n, Nat.reduceEqDiff, reduceCtorEq, false_and, and_false, and_self, true_and, if_false, if_true]; exact h.g_code)
  (g_at := by simp only [ui_ap, cc_ne, cc_n0, cc_0n, Nat.reduceEqDiff, reduceCtorEq, false_and, and_false, and_self, true_and, if_false, if_true]; exact h.g_at)
  (g_asks := by simp only [ui_ap, cc_ne, cc_n0, cc_0n, Nat.reduceEqDiff, reduceCtorEq, false_and, and_false, and_self, true_and, if_false, if_true]; exact h.g_asks)
  (g_benches := by simp only [ui_ap, cc_ne, cc_n0, cc_0n, Nat.reduceEqDiff, reduceCtorEq, false_and, and_false, and_self, true_and, if_false, if_true]; exact h.g_benches)
  (g_orderSize := by simp only [ui_ap, cc_ne, cc_n0, cc_0n, Nat.reduceEqDiff, reduceCtorEq, false_and, and_false, and_self, true_and, if_false, if_true]; exact h.g_orderSize)
  (g_passed := by simp only [ui_ap, cc_ne, cc_n0, cc_0n, Nat.reduceEqDiff, reduceCtorEq, false_and, and_false, and_self, true_and, if_false, if_true]; exact h.g_passed)
  (g_best := by simp only [ui_ap, cc_ne, cc_n0, cc_0n, Nat.reduceEqDiff, reduceCtorEq, false_and, and_false, and_self, true_and, if_false, if_true]; exact h.g_best)
  (g_circle := by simp only [ui_ap, cc_ne, cc_n0, cc_0n, Nat.reduceEqDiff, reduceCtorEq, false_and, and_false, and_self, true_and, if_false, if_true]; exact h.g_circle)
  (g_row := by simp only [ui_ap, cc_ne, cc_n0, cc_0n, Nat.reduceEqDiff, reduceCtorEq, false_and, and_false, and_self, true_and, if_false, if_true]; exact h.g_row)
  (g_rest := by simp only [ui_ap, cc_ne, cc_n0, cc_0n, Nat.reduceEqDiff, reduceCtorEq, false_and, and_false, and_self, true_and, if_false, if_true]; exact h.g_rest)
  (g_lost := by simp only [ui_ap, cc_ne, cc_n0, cc_0n, Nat.reduceEqDiff, reduceCtorEq, false_and, and_false, and_self, true_and, if_false, if_true]; exact h.g_lost)
  (g_spots := by simp only [ui_ap, cc_ne, cc_n0, cc_0n, Nat.reduceEqDiff, reduceCtorEq, false_and, and_false, and_self, true_and, if_false, if_true]; exact h.g_spots)
  (g_ask := fun a ha => by
    have q := h.g_ask a ha
    have e : ¬ a = C + 36 := by omega
    simp only [ui_ap, e, false_and, if_false]
    exact q)
  (g_bnc := fun b hb => by
    have q := h.g_bnc b hb
    have e : ¬ b = C + 36 := by omega
    simp only [ui_ap, e, false_and, if_false]
    exact q)
  (g_txt := h.g_txt)
  (g_asksR := h.g_asksR)
  (g_asksN := by simp only [ui_ap, cc_ne, cc_n0, cc_0n, Nat.reduceEqDiff, reduceCtorEq, false_and, and_false, and_self, true_and, if_false, if_true]; exact h.g_asksN)
  (g_benchesR := h.g_benchesR)
  (g_textsR := h.g_textsR)
  (g_orderR := h.g_orderR)
  (g_bestR := h.g_bestR)
  (g_ringR := h.g_ringR)
  (g_draft := h.g_draft)
  (g_benN := by simp only [ui_ap, cc_ne, cc_n0, cc_0n, Nat.reduceEqDiff, reduceCtorEq, false_and, and_false, and_self, true_and, if_false, if_true]; exact h.g_benN)
  (g_benY := by simp only [ui_ap, cc_ne, cc_n0, cc_0n, Nat.reduceEqDiff, reduceCtorEq, false_and, and_false, and_self, true_and, if_false, if_true]; exact h.g_benY)
theorem sT_Circle_sound (h : cT C K L J R) {k : Nat} {v : Int32} : cT C K L (a_ui J (C + 37) k v) R := cT_mk
  (s := h.s)
  (g_now := by simp only [ui_ap, cc_ne, cc_n0, cc_0n, Nat.reduceEqDiff, reduceCtorEq, false_and, and_false, and_self, true_and, if_false, if_true]; exact h.g_now)
  (g_trips := by simp only [ui_ap, cc_ne, cc_n0, cc_0n, Nat.reduceEqDiff, reduceCtorEq, false_and, and_false, and_self, true_and, if_false, if_true]; exact h.g_trips)
  (g_texts := by simp only [ui_ap, cc_ne, cc_n0, cc_0n, Nat.reduceEqDiff, reduceCtorEq, false_and, and_false, and_self, true_and, if_false, if_true]; exact h.g_texts)
  (g_size := by simp only [ui_ap, cc_ne, cc_n0, cc_0n, Nat.reduceEqDiff, reduceCtorEq, false_and, and_false, and_self, true_and, if_false, if_true]; exact h.g_size)
  (g_code := by simp only [ui_ap, cc_ne, cc_n0, cc_0n, Nat.reduceEqDiff, reduceCtorEq, false_and, and_false, and_self, true_and, if_false, if_true]; exact h.g_code)
  (g_at := by simp only [ui_ap, cc_ne, cc_n0, cc_0n, Nat.reduceEqDiff, reduceCtorEq, false_and, and_false, and_self, true_and, if_false, if_true]; exact h.g_at)
  (g_asks := by simp only [ui_ap, cc_ne, cc_n0, cc_0n, Nat.reduceEqDiff, reduceCtorEq, false_and, and_false, and_self, true_and, if_false, if_true]; exact h.g_asks)
  (g_benches := by simp only [ui_ap, cc_ne, cc_n0, cc_0n, Nat.reduceEqDiff, reduceCtorEq, false_and, and_false, and_self, true_and, if_false, if_true]; exact h.g_benches)
  (g_orderSize := by simp only [ui_ap, cc_ne, cc_n0, cc_0n, Nat.reduceEqDiff, reduceCtorEq, false_and, and_false, and_self, true_and, if_false, if_true]; exact h.g_orderSize)
  (g_passed := by simp only [ui_ap, cc_ne, cc_n0, cc_0n, Nat.reduceEqDiff, reduceCtorEq, false_and, and_false, and_self, true_and, if_false, if_true]; exact h.g_passed)
  (g_best := by simp only [ui_ap, cc_ne, cc_n0, cc_0n, Nat.reduceEqDiff, reduceCtorEq, false_and, and_false, and_self, true_and, if_false, if_true]; exact h.g_best)
  (g_circle := by simp only [ui_ap, cc_ne, cc_n0, cc_0n, Nat.reduceEqDiff, reduceCtorEq, false_and, and_false, and_self, true_and, if_false, if_true]; exact h.g_circle)
  (g_row := by simp only [ui_ap, cc_ne, cc_n0, cc_0n, Nat.reduceEqDiff, reduceCtorEq, false_and, and_false, and_self, true_and, if_false, if_true]; exact h.g_row)
  (g_rest := by simp only [ui_ap, cc_ne, cc_n0, cc_0n, Nat.reduceEqDiff, reduceCtorEq, false_and, and_false, and_self, true_and, if_false, if_true]; exact h.g_rest)
  (g_lost := by simp only [ui_ap, cc_ne, cc_n0, cc_0n, Nat.reduceEqDiff, reduceCtorEq, false_and, and_false, and_self, true_and, if_false, if_true]; exact h.g_lost)
  (g_spots := by simp only [ui_ap, cc_ne, cc_n0, cc_0n, Nat.reduceEqDiff, reduceCtorEq, false_and, and_false, and_self, true_and, if_false, if_true]; exact h.g_spots)
  (g_ask := fun a ha => by
    have q := h.g_ask a ha
    have e : ¬ a = C + 37 := by omega
    simp only [ui_ap, e, false_and, if_false]
    exact q)
  (g_bnc := fun b hb => by
    have q := h.g_bnc b hb
    have e : ¬ b = C + 37 := by omega
    simp only [ui_ap, e, false_and, if_false]
    exact q)
  (g_txt := h.g_txt)
  (g_asksR := h.g_asksR)
  (g_asksN := by simp only [ui_ap, cc_ne, cc_n0, cc_0n, Nat.reduceEqDiff, reduceCtorEq, false_and, and_false, and_self, true_and, if_false, if_true]; exact h.g_asksN)
  (g_benchesR := h.g_benchesR)
  (g_textsR := h.g_textsR)
  (g_orderR := h.g_orderR)
  (g_bestR := h.g_bestR)
  (g_ringR := h.g_ringR)
  (g_draft := h.g_draft)
  (g_benN := by simp only [ui_ap, cc_ne, cc_n0, cc_0n, Nat.reduceEqDiff, reduceCtorEq, false_and, and_false, and_self, true_and, if_false, if_true]; exact h.g_benN)
  (g_benY := by simp only [ui_ap, cc_ne, cc_n0, cc_0n, Nat.reduceEqDiff, reduceCtorEq, false_and, and_false, and_self, true_and, if_false, if_true]; exact h.g_benY)
theorem sT_Circle_bench (h : cT C K L J R) {k : Nat} {v : Int32} : cT C K L (a_ui J (C + 39) k v) R := cT_mk
  (s := h.s)
  (g_now := by simp only [ui_ap, cc_ne, cc_n0, cc_0n, Nat.reduceEqDiff, reduceCtorEq, false_and, and_false, and_self, true_and, if_false, if_true]; exact h.g_now)
  (g_trips := by simp only [ui_ap, cc_ne, cc_n0, cc_0n, Nat.reduceEqDiff, reduceCtorEq, false_and, and_false, and_self, true_and, if_false, if_true]; exact h.g_trips)
  (g_texts := by simp only [ui_ap, cc_ne, cc_n0, cc_0n, Nat.reduceEqDiff, reduceCtorEq, false_and, and_false, and_self, true_and, if_false, if_true]; exact h.g_texts)
  (g_size := by simp only [ui_ap, cc_ne, cc_n0, cc_0n, Nat.reduceEqDiff, reduceCtorEq, false_and, and_false, and_self, true_and, if_false, if_true]; exact h.g_size)
  (g_code := by simp only [ui_ap, cc_ne, cc_n0, cc_0n, Nat.reduceEqDiff, reduceCtorEq, false_and, and_false, and_self, true_and, if_false, if_true]; exact h.g_code)
  (g_at := by simp only [ui_ap, cc_ne, cc_n0, cc_0n, Nat.reduceEqDiff, reduceCtorEq, false_and, and_false, and_self, true_and, if_false, if_true]; exact h.g_at)
  (g_asks := by simp only [ui_ap, cc_ne, cc_n0, cc_0n, Nat.reduceEqDiff, reduceCtorEq, false_and, and_false, and_self, true_and, if_false, if_true]; exact h.g_asks)
  (g_benches := by simp only [ui_ap, cc_ne, cc_n0, cc_0n, Nat.reduceEqDiff, reduceCtorEq, false_and, and_false, and_self, true_and, if_false, if_true]; exact h.g_benches)
  (g_orderSize := by simp only [ui_ap, cc_ne, cc_n0, cc_0n, Nat.reduceEqDiff, reduceCtorEq, false_and, and_false, and_self, true_and, if_false, if_true]; exact h.g_orderSize)
  (g_passed := by simp only [ui_ap, cc_ne, cc_n0, cc_0n, Nat.reduceEqDiff, reduceCtorEq, false_and, and_false, and_self, true_and, if_false, if_true]; exact h.g_passed)
  (g_best := by simp only [ui_ap, cc_ne, cc_n0, cc_0n, Nat.reduceEqDiff, reduceCtorEq, false_and, and_false, and_self, true_and, if_false, if_true]; exact h.g_best)
  (g_circle := by simp only [ui_ap, cc_ne, cc_n0, cc_0n, Nat.reduceEqDiff, reduceCtorEq, false_and, and_false, and_self, true_and, if_false, if_true]; exact h.g_circle)
  (g_row := by simp only [ui_ap, cc_ne, cc_n0, cc_0n, Nat.reduceEqDiff, reduceCtorEq, false_and, and_false, and_self, true_and, if_false, if_true]; exact h.g_row)
  (g_rest := by simp only [ui_ap, cc_ne, cc_n0, cc_0n, Nat.reduceEqDiff, reduceCtorEq, false_and, and_false, and_self, true_and, if_false, if_true]; exact h.g_rest)
  (g_lost := by simp only [ui_ap, cc_ne, cc_n0, cc_0n, Nat.reduceEqDiff, reduceCtorEq, false_and, and_false, and_self, true_and, if_false, if_true]; exact h.g_lost)
  (g_spots := by simp only [ui_ap, cc_ne, cc_n0, cc_0n, Nat.reduceEqDiff, reduceCtorEq, false_and, and_false, and_self, true_and, if_false, if_true]; exact h.g_spots)
  (g_ask := fun a ha => by
    have q := h.g_ask a ha
    have e : ¬ a = C + 39 := by omega
    simp only [ui_ap, e, false_and, if_false]
    exact q)
  (g_bnc := fun b hb => by
    have q := h.g_bnc b hb
    have e : ¬ b = C + 39 := by omega
    simp only [ui_ap, e, false_and, if_false]
    exact q)
  (g_txt := h.g_txt)
  (g_asksR := h.g_asksR)
  (g_asksN := by simp only [ui_ap, cc_ne, cc_n0, cc_0n, Nat.reduceEqDiff, reduceCtorEq, false_and, and_false, and_self, true_and, if_false, if_true]; exact h.g_asksN)
  (g_benchesR := h.g_benchesR)
  (g_textsR := h.g_textsR)
  (g_orderR := h.g_orderR)
  (g_bestR := h.g_bestR)
  (g_ringR := h.g_ringR)
  (g_draft := h.g_draft)
  (g_benN := by simp only [ui_ap, cc_ne, cc_n0, cc_0n, Nat.reduceEqDiff, reduceCtorEq, false_and, and_false, and_self, true_and, if_false, if_true]; exact h.g_benN)
  (g_benY := by simp only [ui_ap, cc_ne, cc_n0, cc_0n, Nat.reduceEqDiff, reduceCtorEq, false_and, and_false, and_self, true_and, if_false, if_true]; exact h.g_benY)
theorem sT_Circle_shift (h : cT C K L J R) {k : Nat} {v : Int32} : cT C K L (a_ui J (C + 40) k v) R := cT_mk
  (s := h.s)
  (g_now := by simp only [ui_ap, cc_ne, cc_n0, cc_0n, Nat.reduceEqDiff, reduceCtorEq, false_and, and_false, and_self, true_and, if_false, if_true]; exact h.g_now)
  (g_trips := by simp only [ui_ap, cc_ne, cc_n0, cc_0n, Nat.reduceEqDiff, reduceCtorEq, false_and, and_false, and_self, true_and, if_false, if_true]; exact h.g_trips)
  (g_texts := by simp only [ui_ap, cc_ne, cc_n0, cc_0n, Nat.reduceEqDiff, reduceCtorEq, false_and, and_false, and_self, true_and, if_false, if_true]; exact h.g_texts)
  (g_size := by simp only [ui_ap, cc_ne, cc_n0, cc_0n, Nat.reduceEqDiff, reduceCtorEq, false_and, and_false, and_self, true_and, if_false, if_true]; exact h.g_size)
  (g_code := by simp only [ui_ap, cc_ne, cc_n0, cc_0n, Nat.reduceEqDiff, reduceCtorEq, false_and, and_false, and_self, true_and, if_false, if_true]; exact h.g_code)
  (g_at := by simp only [ui_ap, cc_ne, cc_n0, cc_0n, Nat.reduceEqDiff, reduceCtorEq, false_and, and_false, and_self, true_and, if_false, if_true]; exact h.g_at)
  (g_asks := by simp only [ui_ap, cc_ne, cc_n0, cc_0n, Nat.reduceEqDiff, reduceCtorEq, false_and, and_false, and_self, true_and, if_false, if_true]; exact h.g_asks)
  (g_benches := by simp only [ui_ap, cc_ne, cc_n0, cc_0n, Nat.reduceEqDiff, reduceCtorEq, false_and, and_false, and_self, true_and, if_false, if_true]; exact h.g_benches)
  (g_orderSize := by simp only [ui_ap, cc_ne, cc_n0, cc_0n, Nat.reduceEqDiff, reduceCtorEq, false_and, and_false, and_self, true_and, if_false, if_true]; exact h.g_orderSize)
  (g_passed := by simp only [ui_ap, cc_ne, cc_n0, cc_0n, Nat.reduceEqDiff, reduceCtorEq, false_and, and_false, and_self, true_and, if_false, if_true]; exact h.g_passed)
  (g_best := by simp only [ui_ap, cc_ne, cc_n0, cc_0n, Nat.reduceEqDiff, reduceCtorEq, false_and, and_false, and_self, true_and, if_false, if_true]; exact h.g_best)
  (g_circle := by simp only [ui_ap, cc_ne, cc_n0, cc_0n, Nat.reduceEqDiff, reduceCtorEq, false_and, and_false, and_self, true_and, if_false, if_true]; exact h.g_circle)
  (g_row := by simp only [ui_ap, cc_ne, cc_n0, cc_0n, Nat.reduceEqDiff, reduceCtorEq, false_and, and_false, and_self, true_and, if_false, if_true]; exact h.g_row)
  (g_rest := by simp only [ui_ap, cc_ne, cc_n0, cc_0n, Nat.reduceEqDiff, reduceCtorEq, false_and, and_false, and_self, true_and, if_false, if_true]; exact h.g_rest)
  (g_lost := by simp only [ui_ap, cc_ne, cc_n0, cc_0n, Nat.reduceEqDiff, reduceCtorEq, false_and, and_false, and_self, true_and, if_false, if_true]; exact h.g_lost)
  (g_spots := by simp only [ui_ap, cc_ne, cc_n0, cc_0n, Nat.reduceEqDiff, reduceCtorEq, false_and, and_false, and_self, true_and, if_false, if_true]; exact h.g_spots)
  (g_ask := fun a ha => by
    have q := h.g_ask a ha
    have e : ¬ a = C + 40 := by omega
    simp only [ui_ap, e, false_and, if_false]
    exact q)
  (g_bnc := fun b hb => by
    have q := h.g_bnc b hb
    have e : ¬ b = C + 40 := by omega
    simp only [ui_ap, e, false_and, if_false]
    exact q)
  (g_txt := h.g_txt)
  (g_asksR := h.g_asksR)
  (g_asksN := by simp only [ui_ap, cc_ne, cc_n0, cc_0n, Nat.reduceEqDiff, reduceCtorEq, false_and, and_false, and_self, true_and, if_false, if_true]; exact h.g_asksN)
  (g_benchesR := h.g_benchesR)
  (g_textsR := h.g_textsR)
  (g_orderR := h.g_orderR)
  (g_bestR := h.g_bestR)
  (g_ringR := h.g_ringR)
  (g_draft := h.g_draft)
  (g_benN := by simp only [ui_ap, cc_ne, cc_n0, cc_0n, Nat.reduceEqDiff, reduceCtorEq, false_and, and_false, and_self, true_and, if_false, if_true]; exact h.g_benN)
  (g_benY := by simp only [ui_ap, cc_ne, cc_n0, cc_0n, Nat.reduceEqDiff, reduceCtorEq, false_and, and_false, and_self, true_and, if_false, if_true]; exact h.g_benY)
theorem sT_Circle_stood (h : cT C K L J R) {k : Nat} {v : Int32} : cT C K L (a_ui J (C + 41) k v) R := cT_mk
  (s := h.s)
  (g_now := by simp only [ui_ap, cc_ne, cc_n0, cc_0n, Nat.reduceEqDiff, reduceCtorEq, false_and, and_false, and_self, true_and, if_false, if_true]; exact h.g_now)
  (g_trips := by simp only [ui_ap, cc_ne, cc_n0, cc_0n, Nat.reduceEqDiff, reduceCtorEq, false_and, and_false, and_self, true_and, if_false, if_true]; exact h.g_trips)
  (g_texts := by simp only [ui_ap, cc_ne, cc_n0, cc_0n, Nat.reduceEqDiff, reduceCtorEq, false_and, and_false, and_self, true_and, if_false, if_true]; exact h.g_texts)
  (g_size := by simp only [ui_ap, cc_ne, cc_n0, cc_0n, Nat.reduceEqDiff, reduceCtorEq, false_and, and_false, and_self, true_and, if_false, if_true]; exact h.g_size)
  (g_code := by simp only [ui_ap, cc_ne, cc_n0, cc_0n, Nat.reduceEqDiff, reduceCtorEq, false_and, and_false, and_self, true_and, if_false, if_true]; exact h.g_code)
  (g_at := by simp only [ui_ap, cc_ne, cc_n0, cc_0n, Nat.reduceEqDiff, reduceCtorEq, false_and, and_false, and_self, true_and, if_false, if_true]; exact h.g_at)
  (g_asks := by simp only [ui_ap, cc_ne, cc_n0, cc_0n, Nat.reduceEqDiff, reduceCtorEq, false_and, and_false, and_self, true_and, if_false, if_true]; exact h.g_asks)
  (g_benches := by simp only [ui_ap, cc_ne, cc_n0, cc_0n, Nat.reduceEqDiff, reduceCtorEq, false_and, and_false, and_self, true_and, if_false, if_true]; exact h.g_benches)
  (g_orderSize := by simp only [ui_ap, cc_ne, cc_n0, cc_0n, Nat.reduceEqDiff, reduceCtorEq, false_and, and_false, and_self, true_and, if_false, if_true]; exact h.g_orderSize)
  (g_passed := by simp only [ui_ap, cc_ne, cc_n0, cc_0n, Nat.reduceEqDiff, reduceCtorEq, false_and, and_false, and_self, true_and, if_false, if_true]; exact h.g_passed)
  (g_best := by simp only [ui_ap, cc_ne, cc_n0, cc_0n, Nat.reduceEqDiff, reduceCtorEq, false_and, and_false, and_self, true_and, if_false, if_true]; exact h.g_best)
  (g_circle := by simp only [ui_ap, cc_ne, cc_n0, cc_0n, Nat.reduceEqDiff, reduceCtorEq, false_and, and_false, and_self, true_and, if_false, if_true]; exact h.g_circle)
  (g_row := by simp only [ui_ap, cc_ne, cc_n0, cc_0n, Nat.reduceEqDiff, reduceCtorEq, false_and, and_false, and_self, true_and, if_false, if_true]; exact h.g_row)
  (g_rest := by simp only [ui_ap, cc_ne, cc_n0, cc_0n, Nat.reduceEqDiff, reduceCtorEq, false_and, and_false, and_self, true_and, if_false, if_true]; exact h.g_rest)
  (g_lost := by simp only [ui_ap, cc_ne, cc_n0, cc_0n, Nat.reduceEqDiff, reduceCtorEq, false_and, and_false, and_self, true_and, if_false, if_true]; exact h.g_lost)
  (g_spots := by simp only [ui_ap, cc_ne, cc_n0, cc_0n, Nat.reduceEqDiff, reduceCtorEq, false_and, and_false, and_self, true_and, if_false, if_true]; exact h.g_spots)
  (g_ask := fun a ha => by
    have q := h.g_ask a ha
    have e : ¬ a = C + 41 := by omega
    simp only [ui_ap, e, false_and, if_false]
    exact q)
  (g_bnc := fun b hb => by
    have q := h.g_bnc b hb
    have e : ¬ b = C + 41 := by omega
    simp only [ui_ap, e, false_and, if_false]
    exact q)
  (g_txt := h.g_txt)
  (g_asksR := h.g_asksR)
  (g_asksN := by simp only [ui_ap, cc_ne, cc_n0, cc_0n, Nat.reduceEqDiff, reduceCtorEq, false_and, and_false, and_self, true_and, if_false, if_true]; exact h.g_asksN)
  (g_benchesR := h.g_benchesR)
  (g_textsR := h.g_textsR)
  (g_orderR := h.g_orderR)
  (g_bestR := h.g_bestR)
  (g_ringR := h.g_ringR)
  (g_draft := h.g_draft)
  (g_benN := by simp only [ui_ap, cc_ne, cc_n0, cc_0n, Nat.reduceEqDiff, reduceCtorEq, false_and, and_false, and_self, true_and, if_false, if_true]; exact h.g_benN)
  (g_benY := by simp only [ui_ap, cc_ne, cc_n0, cc_0n, Nat.reduceEqDiff, reduceCtorEq, false_and, and_false, and_self, true_and, if_false, if_true]; exact h.g_benY)
theorem sT_BeamHall_refused (h : cT C K L J R) {k : Nat} {v : Int32} : cT C K L (a_ui J (C + 42) k v) R := cT_mk
  (s := h.s)
  (g_now := by simp only [ui_ap, cc_ne, cc_n0, cc_0n, Nat.reduceEqDiff, reduceCtorEq, false_and, and_false, and_self, true_and, if_false, if_true]; exact h.g_now)
  (g_trips := by simp only [ui_ap, cc_ne, cc_n0, cc_0n, Nat.reduceEqDiff, reduceCtorEq, false_and, and_false, and_self, true_and, if_false, if_true]; exact h.g_trips)
  (g_texts := by simp only [ui_ap, cc_ne, cc_n0, cc_0n, Nat.reduceEqDiff, reduceCtorEq, false_and, and_false, and_self, true_and, if_false, if_true]; exact h.g_texts)
  (g_size := by simp only [ui_ap, cc_ne, cc_n0, cc_0n, Nat.reduceEqDiff, reduceCtorEq, false_and, and_false, and_self, true_and, if_false, if_true]; exact h.g_size)
  (g_code := by simp only [ui_ap, cc_ne, cc_n0, cc_0n, Nat.reduceEqDiff, reduceCtorEq, false_and, and_false, and_self, true_and, if_false, if_true]; exact h.g_code)
  (g_at := by simp only [ui_ap, cc_ne, cc_n0, cc_0n, Nat.reduceEqDiff, reduceCtorEq, false_and, and_false, and_self, true_and, if_false, if_true]; exact h.g_at)
  (g_asks := by simp only [ui_ap, cc_ne, cc_n0, cc_0n, Nat.reduceEqDiff, reduceCtorEq, false_and, and_false, and_self, true_and, if_false, if_true]; exact h.g_asks)
  (g_benches := by simp only [ui_ap, cc_ne, cc_n0, cc_0n, Nat.reduceEqDiff, reduceCtorEq, false_and, and_false, and_self, true_and, if_false, if_true]; exact h.g_benches)
  (g_orderSize := by simp only [ui_ap, cc_ne, cc_n0, cc_0n, Nat.reduceEqDiff, reduceCtorEq, false_and, and_false, and_self, true_and, if_false, if_true]; exact h.g_orderSize)
  (g_passed := by simp only [ui_ap, cc_ne, cc_n0, cc_0n, Nat.reduceEqDiff, reduceCtorEq, false_and, and_false, and_self, true_and, if_false, if_true]; exact h.g_passed)
  (g_best := by simp only [ui_ap, cc_ne, cc_n0, cc_0n, Nat.reduceEqDiff, reduceCtorEq, false_and, and_false, and_self, true_and, if_false, if_true]; exact h.g_best)
  (g_circle := by simp only [ui_ap, cc_ne, cc_n0, cc_0n, Nat.reduceEqDiff, reduceCtorEq, false_and, and_false, and_self, true_and, if_false, if_true]; exact h.g_circle)
  (g_row := by simp only [ui_ap, cc_ne, cc_n0, cc_0n, Nat.reduceEqDiff, reduceCtorEq, false_and, and_false, and_self, true_and, if_false, if_true]; exact h.g_row)
  (g_rest := by simp only [ui_ap, cc_ne, cc_n0, cc_0n, Nat.reduceEqDiff, reduceCtorEq, false_and, and_false, and_self, true_and, if_false, if_true]; exact h.g_rest)
  (g_lost := by simp only [ui_ap, cc_ne, cc_n0, cc_0n, Nat.reduceEqDiff, reduceCtorEq, false_and, and_false, and_self, true_and, if_false, if_true]; exact h.g_lost)
  (g_spots := by simp only [ui_ap, cc_ne, cc_n0, cc_0n, Nat.reduceEqDiff, reduceCtorEq, false_and, and_false, and_self, true_and, if_false, if_true]; exact h.g_spots)
  (g_ask := fun a ha => by
    have q := h.g_ask a ha
    have e : ¬ a = C + 42 := by omega
    simp only [ui_ap, e, false_and, if_false]
    exact q)
  (g_bnc := fun b hb => by
    have q := h.g_bnc b hb
    have e : ¬ b = C + 42 := by omega
    simp only [ui_ap, e, false_and, if_false]
    exact q)
  (g_txt := h.g_txt)
  (g_asksR := h.g_asksR)
  (g_asksN := by simp only [ui_ap, cc_ne, cc_n0, cc_0n, Nat.reduceEqDiff, reduceCtorEq, false_and, and_false, and_self, true_and, if_false, if_true]; exact h.g_asksN)
  (g_benchesR := h.g_benchesR)
  (g_textsR := h.g_textsR)
  (g_orderR := h.g_orderR)
  (g_bestR := h.g_bestR)
  (g_ringR := h.g_ringR)
  (g_draft := h.g_draft)
  (g_benN := by simp only [ui_ap, cc_ne, cc_n0, cc_0n, Nat.reduceEqDiff, reduceCtorEq, false_and, and_false, and_self, true_and, if_false, if_true]; exact h.g_benN)
  (g_benY := by simp only [ui_ap, cc_ne, cc_n0, cc_0n, Nat.reduceEqDiff, reduceCtorEq, false_and, and_false, and_self, true_and, if_false, if_true]; exact h.g_benY)
theorem sT_BeamHall_row (h : cT C K L J R) {k : Nat} {v : Int32} : cT C K L (a_ui J (C + 43) k v) R := cT_mk
  (s := h.s)
  (g_now := by simp only [ui_ap, cc_ne, cc_n0, cc_0n, Nat.reduceEqDiff, reduceCtorEq, false_and, and_false, and_self, true_and, if_false, if_true]; exact h.g_now)
  (g_trips := by simp only [ui_ap, cc_ne, cc_n0, cc_0n, Nat.reduceEqDiff, reduceCtorEq, false_and, and_false, and_self, true_and, if_false, if_true]; exact h.g_trips)
  (g_texts := by simp only [ui_ap, cc_ne, cc_n0, cc_0n, Nat.reduceEqDiff, reduceCtorEq, false_and, and_false, and_self, true_and, if_false, if_true]; exact h.g_texts)
  (g_size := by simp only [ui_ap, cc_ne, cc_n0, cc_0n, Nat.reduceEqDiff, reduceCtorEq, false_and, and_false, and_self, true_and, if_false, if_true]; exact h.g_size)
  (g_code := by simp only [ui_ap, cc_ne, cc_n0, cc_0n, Nat.reduceEqDiff, reduceCtorEq, false_and, and_false, and_self, true_and, if_false, if_true]; exact h.g_code)
  (g_at := by simp only [ui_ap, cc_ne, cc_n0, cc_0n, Nat.reduceEqDiff, reduceCtorEq, false_and, and_false, and_self, true_and, if_false, if_true]; exact h.g_at)
  (g_asks := by simp only [ui_ap, cc_ne, cc_n0, cc_0n, Nat.reduceEqDiff, reduceCtorEq, false_and, and_false, and_self, true_and, if_false, if_true]; exact h.g_asks)
  (g_benches := by simp only [ui_ap, cc_ne, cc_n0, cc_0n, Nat.reduceEqDiff, reduceCtorEq, false_and, and_false, and_self, true_and, if_false, if_true]; exact h.g_benches)
  (g_orderSize := by simp only [ui_ap, cc_ne, cc_n0, cc_0n, Nat.reduceEqDiff, reduceCtorEq, false_and, and_false, and_self, true_and, if_false, if_true]; exact h.g_orderSize)
  (g_passed := by simp only [ui_ap, cc_ne, cc_n0, cc_0n, Nat.reduceEqDiff, reduceCtorEq, false_and, and_false, and_self, true_and, if_false, if_true]; exact h.g_passed)
  (g_best := by simp only [ui_ap, cc_ne, cc_n0, cc_0n, Nat.reduceEqDiff, reduceCtorEq, false_and, and_false, and_self, true_and, if_false, if_true]; exact h.g_best)
  (g_circle := by simp only [ui_ap, cc_ne, cc_n0, cc_0n, Nat.reduceEqDiff, reduceCtorEq, false_and, and_false, and_self, true_and, if_false, if_true]; exact h.g_circle)
  (g_row := by simp only [ui_ap, cc_ne, cc_n0, cc_0n, Nat.reduceEqDiff, reduceCtorEq, false_and, and_false, and_self, true_and, if_false, if_true]; exact h.g_row)
  (g_rest := by simp only [ui_ap, cc_ne, cc_n0, cc_0n, Nat.reduceEqDiff, reduceCtorEq, false_and, and_false, and_self, true_and, if_false, if_true]; exact h.g_rest)
  (g_lost := by simp only [ui_ap, cc_ne, cc_n0, cc_0n, Nat.reduceEqDiff, reduceCtorEq, false_and, and_false, and_self, true_and, if_false, if_true]; exact h.g_lost)
  (g_spots := by simp only [ui_ap, cc_ne, cc_n0, cc_0n, Nat.reduceEqDiff, reduceCtorEq, false_and, and_false, and_self, true_and, if_false, if_true]; exact h.g_spots)
  (g_ask := fun a ha => by
    have q := h.g_ask a ha
    have e : ¬ a = C + 43 := by omega
    simp only [ui_ap, e, false_and, if_false]
    exact q)
  (g_bnc := fun b hb => by
    have q := h.g_bnc b hb
    have e : ¬ b = C + 43 := by omega
    simp only [ui_ap, e, false_and, if_false]
    exact q)
  (g_txt := h.g_txt)
  (g_asksR := h.g_asksR)
  (g_asksN := by simp only [ui_ap, cc_ne, cc_n0, cc_0n, Nat.reduceEqDiff, reduceCtorEq, false_and, and_false, and_self, true_and, if_false, if_true]; exact h.g_asksN)
  (g_benchesR := h.g_benchesR)
  (g_textsR := h.g_textsR)
  (g_orderR := h.g_orderR)
  (g_bestR := h.g_bestR)
  (g_ringR := h.g_ringR)
  (g_draft := h.g_draft)
  (g_benN := by simp only [ui_ap, cc_ne, cc_n0, cc_0n, Nat.reduceEqDiff, reduceCtorEq, false_and, and_false, and_self, true_and, if_false, if_true]; exact h.g_benN)
  (g_benY := by simp only [ui_ap, cc_ne, cc_n0, cc_0n, Nat.reduceEqDiff, reduceCtorEq, false_and, and_false, and_self, true_and, if_false, if_true]; exact h.g_benY)
theorem sT_Panel_scaled (h : cT C K L J R) {v : Int32} : cT C K L (a_ui J (C + 17) 5 v) R := cT_mk
  (s := h.s)
  (g_now := by simp only [ui_ap, cc_ne, cc_n0, cc_0n, Nat.reduceEqDiff, reduceCtorEq, false_and, and_false, and_self, true_and, if_false, if_true]; exact h.g_now)
  (g_trips := by simp only [ui_ap, cc_ne, cc_n0, cc_0n, Nat.reduceEqDiff, reduceCtorEq, false_and, and_false, and_self, true_and, if_false, if_true]; exact h.g_trips)
  (g_texts := by simp only [ui_ap, cc_ne, cc_n0, cc_0n, Nat.reduceEqDiff, reduceCtorEq, false_and, and_false, and_self, true_and, if_false, if_true]; exact h.g_texts)
  (g_size := by simp only [ui_ap, cc_ne, cc_n0, cc_0n, Nat.reduceEqDiff, reduceCtorEq, false_and, and_false, and_self, true_and, if_false, if_true]; exact h.g_size)
  (g_code := by simp only [ui_ap, cc_ne, cc_n0, cc_0n, Nat.reduceEqDiff, reduceCtorEq, false_and, and_false, and_self, true_and, if_false, if_true]; exact h.g_code)
  (g_at := by simp only [ui_ap, cc_ne, cc_n0, cc_0n, Nat.reduceEqDiff, reduceCtorEq, false_and, and_false, and_self, true_and, if_false, if_true]; exact h.g_at)
  (g_asks := by simp only [ui_ap, cc_ne, cc_n0, cc_0n, Nat.reduceEqDiff, reduceCtorEq, false_and, and_false, and_self, true_and, if_false, if_true]; exact h.g_asks)
  (g_benches := by simp only [ui_ap, cc_ne, cc_n0, cc_0n, Nat.reduceEqDiff, reduceCtorEq, false_and, and_false, and_self, true_and, if_false, if_true]; exact h.g_benches)
  (g_orderSize := by simp only [ui_ap, cc_ne, cc_n0, cc_0n, Nat.reduceEqDiff, reduceCtorEq, false_and, and_false, and_self, true_and, if_false, if_true]; exact h.g_orderSize)
  (g_passed := by simp only [ui_ap, cc_ne, cc_n0, cc_0n, Nat.reduceEqDiff, reduceCtorEq, false_and, and_false, and_self, true_and, if_false, if_true]; exact h.g_passed)
  (g_best := by simp only [ui_ap, cc_ne, cc_n0, cc_0n, Nat.reduceEqDiff, reduceCtorEq, false_and, and_false, and_self, true_and, if_false, if_true]; exact h.g_best)
  (g_circle := by simp only [ui_ap, cc_ne, cc_n0, cc_0n, Nat.reduceEqDiff, reduceCtorEq, false_and, and_false, and_self, true_and, if_false, if_true]; exact h.g_circle)
  (g_row := by simp only [ui_ap, cc_ne, cc_n0, cc_0n, Nat.reduceEqDiff, reduceCtorEq, false_and, and_false, and_self, true_and, if_false, if_true]; exact h.g_row)
  (g_rest := by simp only [ui_ap, cc_ne, cc_n0, cc_0n, Nat.reduceEqDiff, reduceCtorEq, false_and, and_false, and_self, true_and, if_false, if_true]; exact h.g_rest)
  (g_lost := by simp only [ui_ap, cc_ne, cc_n0, cc_0n, Nat.reduceEqDiff, reduceCtorEq, false_and, and_false, and_self, true_and, if_false, if_true]; exact h.g_lost)
  (g_spots := by simp only [ui_ap, cc_ne, cc_n0, cc_0n, Nat.reduceEqDiff, reduceCtorEq, false_and, and_false, and_self, true_and, if_false, if_true]; exact h.g_spots)
  (g_ask := fun a ha => by
    have q := h.g_ask a ha
    have e : ¬ a = C + 17 := by omega
    simp only [ui_ap, e, false_and, if_false]
    exact q)
  (g_bnc := fun b hb => by
    have q := h.g_bnc b hb
    have e : ¬ b = C + 17 := by omega
    simp only [ui_ap, e, false_and, if_false]
    exact q)
  (g_txt := h.g_txt)
  (g_asksR := h.g_asksR)
  (g_asksN := by simp only [ui_ap, cc_ne, cc_n0, cc_0n, Nat.reduceEqDiff, reduceCtorEq, false_and, and_false, and_self, true_and, if_false, if_true]; exact h.g_asksN)
  (g_benchesR := h.g_benchesR)
  (g_textsR := h.g_textsR)
  (g_orderR := h.g_orderR)
  (g_bestR := h.g_bestR)
  (g_ringR := h.g_ringR)
  (g_draft := h.g_draft)
  (g_benN := by simp only [ui_ap, cc_ne, cc_n0, cc_0n, Nat.reduceEqDiff, reduceCtorEq, false_and, and_false, and_self, true_and, if_false, if_true]; exact h.g_benN)
  (g_benY := by simp only [ui_ap, cc_ne, cc_n0, cc_0n, Nat.reduceEqDiff, reduceCtorEq, false_and, and_false, and_self, true_and, if_false, if_true]; exact h.g_benY)
theorem sT_Planner_share (h : cT C K L J R) {v : Int32} : cT C K L (a_ui J (C + 22) 8 v) R := cT_mk
  (s := h.s)
  (g_now := by simp only [ui_ap, cc_ne, cc_n0, cc_0n, Nat.reduceEqDiff, reduceCtorEq, false_and, and_false, and_self, true_and, if_false, if_true]; exact h.g_now)
  (g_trips := by simp only [ui_ap, cc_ne, cc_n0, cc_0n, Nat.reduceEqDiff, reduceCtorEq, false_and, and_false, and_self, true_and, if_false, if_true]; exact h.g_trips)
  (g_texts := by simp only [ui_ap, cc_ne, cc_n0, cc_0n, Nat.reduceEqDiff, reduceCtorEq, false_and, and_false, and_self, true_and, if_false, if_true]; exact h.g_texts)
  (g_size := by simp only [ui_ap, cc_ne, cc_n0, cc_0n, Nat.reduceEqDiff, reduceCtorEq, false_and, and_false, and_self, true_and, if_false, if_true]; exact h.g_size)
  (g_code := by simp only [ui_ap, cc_ne, cc_n0, cc_0n, Nat.reduceEqDiff, reduceCtorEq, false_and, and_false, and_self, true_and, if_false, if_true]; exact h.g_code)
  (g_at := by simp only [ui_ap, cc_ne, cc_n0, cc_0n, Nat.reduceEqDiff, reduceCtorEq, false_and, and_false, and_self, true_and, if_false, if_true]; exact h.g_at)
  (g_asks := by simp only [ui_ap, cc_ne, cc_n0, cc_0n, Nat.reduceEqDiff, reduceCtorEq, false_and, and_false, and_self, true_and, if_false, if_true]; exact h.g_asks)
  (g_benches := by simp only [ui_ap, cc_ne, cc_n0, cc_0n, Nat.reduceEqDiff, reduceCtorEq, false_and, and_false, and_self, true_and, if_false, if_true]; exact h.g_benches)
  (g_orderSize := by simp only [ui_ap, cc_ne, cc_n0, cc_0n, Nat.reduceEqDiff, reduceCtorEq, false_and, and_false, and_self, true_and, if_false, if_true]; exact h.g_orderSize)
  (g_passed := by simp only [ui_ap, cc_ne, cc_n0, cc_0n, Nat.reduceEqDiff, reduceCtorEq, false_and, and_false, and_self, true_and, if_false, if_true]; exact h.g_passed)
  (g_best := by simp only [ui_ap, cc_ne, cc_n0, cc_0n, Nat.reduceEqDiff, reduceCtorEq, false_and, and_false, and_self, true_and, if_false, if_true]; exact h.g_best)
  (g_circle := by simp only [ui_ap, cc_ne, cc_n0, cc_0n, Nat.reduceEqDiff, reduceCtorEq, false_and, and_false, and_self, true_and, if_false, if_true]; exact h.g_circle)
  (g_row := by simp only [ui_ap, cc_ne, cc_n0, cc_0n, Nat.reduceEqDiff, reduceCtorEq, false_and, and_false, and_self, true_and, if_false, if_true]; exact h.g_row)
  (g_rest := by simp only [ui_ap, cc_ne, cc_n0, cc_0n, Nat.reduceEqDiff, reduceCtorEq, false_and, and_false, and_self, true_and, if_false, if_true]; exact h.g_rest)
  (g_lost := by simp only [ui_ap, cc_ne, cc_n0, cc_0n, Nat.reduceEqDiff, reduceCtorEq, false_and, and_false, and_self, true_and, if_false, if_true]; exact h.g_lost)
  (g_spots := by simp only [ui_ap, cc_ne, cc_n0, cc_0n, Nat.reduceEqDiff, reduceCtorEq, false_and, and_false, and_self, true_and, if_false, if_true]; exact h.g_spots)
  (g_ask := fun a ha => by
    have q := h.g_ask a ha
    have e : ¬ a = C + 22 := by omega
    simp only [ui_ap, e, false_and, if_false]
    exact q)
  (g_bnc := fun b hb => by
    have q := h.g_bnc b hb
    have e : ¬ b = C + 22 := by omega
    simp only [ui_ap, e, false_and, if_false]
    exact q)
  (g_txt := h.g_txt)
  (g_asksR := h.g_asksR)
  (g_asksN := by simp only [ui_ap, cc_ne, cc_n0, cc_0n, Nat.reduceEqDiff, reduceCtorEq, false_and, and_false, and_self, true_and, if_false, if_true]; exact h.g_asksN)
  (g_benchesR := h.g_benchesR)
  (g_textsR := h.g_textsR)
  (g_orderR := h.g_orderR)
  (g_bestR := h.g_bestR)
  (g_ringR := h.g_ringR)
  (g_draft := h.g_draft)
  (g_benN := by simp only [ui_ap, cc_ne, cc_n0, cc_0n, Nat.reduceEqDiff, reduceCtorEq, false_and, and_false, and_self, true_and, if_false, if_true]; exact h.g_benN)
  (g_benY := by simp only [ui_ap, cc_ne, cc_n0, cc_0n, Nat.reduceEqDiff, reduceCtorEq, false_and, and_false, and_self, true_and, if_false, if_true]; exact h.g_benY)
theorem sT_Best_sum (h : cT C K L J R) {v : Int32} : cT C K L (a_ui J (C + 27) 9 v) R := cT_mk
  (s := h.s)
  (g_now := by simp only [ui_ap, cc_ne, cc_n0, cc_0n, Nat.reduceEqDiff, reduceCtorEq, false_and, and_false, and_self, true_and, if_false, if_true]; exact h.g_now)
  (g_trips := by simp only [ui_ap, cc_ne, cc_n0, cc_0n, Nat.reduceEqDiff, reduceCtorEq, false_and, and_false, and_self, true_and, if_false, if_true]; exact h.g_trips)
  (g_texts := by simp only [ui_ap, cc_ne, cc_n0, cc_0n, Nat.reduceEqDiff, reduceCtorEq, false_and, and_false, and_self, true_and, if_false, if_true]; exact h.g_texts)
  (g_size := by simp only [ui_ap, cc_ne, cc_n0, cc_0n, Nat.reduceEqDiff, reduceCtorEq, false_and, and_false, and_self, true_and, if_false, if_true]; exact h.g_size)
  (g_code := by simp only [ui_ap, cc_ne, cc_n0, cc_0n, Nat.reduceEqDiff, reduceCtorEq, false_and, and_false, and_self, true_and, if_false, if_true]; exact h.g_code)
  (g_at := by simp only [ui_ap, cc_ne, cc_n0, cc_0n, Nat.reduceEqDiff, reduceCtorEq, false_and, and_false, and_self, true_and, if_false, if_true]; exact h.g_at)
  (g_asks := by simp only [ui_ap, cc_ne, cc_n0, cc_0n, Nat.reduceEqDiff, reduceCtorEq, false_and, and_false, and_self, true_and, if_false, if_true]; exact h.g_asks)
  (g_benches := by simp only [ui_ap, cc_ne, cc_n0, cc_0n, Nat.reduceEqDiff, reduceCtorEq, false_and, and_false, and_self, true_and, if_false, if_true]; exact h.g_benches)
  (g_orderSize := by simp only [ui_ap, cc_ne, cc_n0, cc_0n, Nat.reduceEqDiff, reduceCtorEq, false_and, and_false, and_self, true_and, if_false, if_true]; exact h.g_orderSize)
  (g_passed := by simp only [ui_ap, cc_ne, cc_n0, cc_0n, Nat.reduceEqDiff, reduceCtorEq, false_and, and_false, and_self, true_and, if_false, if_true]; exact h.g_passed)
  (g_best := by simp only [ui_ap, cc_ne, cc_n0, cc_0n, Nat.reduceEqDiff, reduceCtorEq, false_and, and_false, and_self, true_and, if_false, if_true]; exact h.g_best)
  (g_circle := by simp only [ui_ap, cc_ne, cc_n0, cc_0n, Nat.reduceEqDiff, reduceCtorEq, false_and, and_false, and_self, true_and, if_false, if_true]; exact h.g_circle)
  (g_row := by simp only [ui_ap, cc_ne, cc_n0, cc_0n, Nat.reduceEqDiff, reduceCtorEq, false_and, and_false, and_self, true_and, if_false, if_true]; exact h.g_row)
  (g_rest := by simp only [ui_ap, cc_ne, cc_n0, cc_0n, Nat.reduceEqDiff, reduceCtorEq, false_and, and_false, and_self, true_and, if_false, if_true]; exact h.g_rest)
  (g_lost := by simp only [ui_ap, cc_ne, cc_n0, cc_0n, Nat.reduceEqDiff, reduceCtorEq, false_and, and_false, and_self, true_and, if_false, if_true]; exact h.g_lost)
  (g_spots := by simp only [ui_ap, cc_ne, cc_n0, cc_0n, Nat.reduceEqDiff, reduceCtorEq, false_and, and_false, and_self, true_and, if_false, if_true]; exact h.g_spots)
  (g_ask := fun a ha => by
    have q := h.g_ask a ha
    have e : ¬ a = C + 27 := by omega
    simp only [ui_ap, e, false_and, if_false]
    exact q)
  (g_bnc := fun b hb => by
    have q := h.g_bnc b hb
    have e : ¬ b = C + 27 := by omega
    simp only [ui_ap, e, false_and, if_false]
    exact q)
  (g_txt := h.g_txt)
  (g_asksR := h.g_asksR)
  (g_asksN := by simp only [ui_ap, cc_ne, cc_n0, cc_0n, Nat.reduceEqDiff, reduceCtorEq, false_and, and_false, and_self, true_and, if_false, if_true]; exact h.g_asksN)
  (g_benchesR := h.g_benchesR)
  (g_textsR := h.g_textsR)
  (g_orderR := h.g_orderR)
  (g_bestR := h.g_bestR)
  (g_ringR := h.g_ringR)
  (g_draft := h.g_draft)
  (g_benN := by simp only [ui_ap, cc_ne, cc_n0, cc_0n, Nat.reduceEqDiff, reduceCtorEq, false_and, and_false, and_self, true_and, if_false, if_true]; exact h.g_benN)
  (g_benY := by simp only [ui_ap, cc_ne, cc_n0, cc_0n, Nat.reduceEqDiff, reduceCtorEq, false_and, and_false, and_self, true_and, if_false, if_true]; exact h.g_benY)
theorem sT_arr (h : cT C K L J R) {x k : Nat} {v : Int32} (hx : C + 96 < x) (hk : K x = 20) : cT C K L (a_ui J x k v) R := cT_mk
  (s := h.s)
  (g_now := by simp only [ui_ap, show ∀ m, m ≤ 43 → ¬ C + m = x from fun m hm => by omega, show ¬ C = x by omega, Nat.reduceLeDiff, Nat.le_refl, false_and, if_false]; exact h.g_now)
  (g_trips := by simp only [ui_ap, show ∀ m, m ≤ 43 → ¬ C + m = x from fun m hm => by omega, show ¬ C = x by omega, Nat.reduceLeDiff, Nat.le_refl, false_and, if_false]; exact h.g_trips)
  (g_texts := by simp only [ui_ap, show ∀ m, m ≤ 43 → ¬ C + m = x from fun m hm => by omega, show ¬ C = x by omega, Nat.reduceLeDiff, Nat.le_refl, false_and, if_false]; exact h.g_texts)
  (g_size := by simp only [ui_ap, show ∀ m, m ≤ 43 → ¬ C + m = x from fun m hm => by omega, show ¬ C = x by omega, Nat.reduceLeDiff, Nat.le_refl, false_and, if_false]; exact h.g_size)
  (g_code := by simp only [ui_ap, show ∀ m, m ≤ 43 → ¬ C + m = x from fun m hm => by omega, show ¬ C = x by omega, Nat.reduceLeDiff, Nat.le_refl, false_and, if_false]; exact h.g_code)
  (g_at := by simp only [ui_ap, show ∀ m, m ≤ 43 → ¬ C + m = x from fun m hm => by omega, show ¬ C = x by omega, Nat.reduceLeDiff, Nat.le_refl, false_and, if_false]; exact h.g_at)
  (g_asks := by simp only [ui_ap, show ∀ m, m ≤ 43 → ¬ C + m = x from fun m hm => by omega, show ¬ C = x by omega, Nat.reduceLeDiff, Nat.le_refl, false_and, if_false]; exact h.g_asks)
  (g_benches := by simp only [ui_ap, show ∀ m, m ≤ 43 → ¬ C + m = x from fun m hm => by omega, show ¬ C = x by omega, Nat.reduceLeDiff, Nat.le_refl, false_and, if_false]; exact h.g_benches)
  (g_orderSize := by simp only [ui_ap, show ∀ m, m ≤ 43 → ¬ C + m = x from fun m hm => by omega, show ¬ C = x by omega, Nat.reduceLeDiff, Nat.le_refl, false_and, if_false]; exact h.g_orderSize)
  (g_passed := by simp only [ui_ap, show ∀ m, m ≤ 43 → ¬ C + m = x from fun m hm => by omega, show ¬ C = x by omega, Nat.reduceLeDiff, Nat.le_refl, false_and, if_false]; exact h.g_passed)
  (g_best := by simp only [ui_ap, show ∀ m, m ≤ 43 → ¬ C + m = x from fun m hm => by omega, show ¬ C = x by omega, Nat.reduceLeDiff, Nat.le_refl, false_and, if_false]; exact h.g_best)
  (g_circle := by simp only [ui_ap, show ∀ m, m ≤ 43 → ¬ C + m = x from fun m hm => by omega, show ¬ C = x by omega, Nat.reduceLeDiff, Nat.le_refl, false_and, if_false]; exact h.g_circle)
  (g_row := by simp only [ui_ap, show ∀ m, m ≤ 43 → ¬ C + m = x from fun m hm => by omega, show ¬ C = x by omega, Nat.reduceLeDiff, Nat.le_refl, false_and, if_false]; exact h.g_row)
  (g_rest := by simp only [ui_ap, show ∀ m, m ≤ 43 → ¬ C + m = x from fun m hm => by omega, show ¬ C = x by omega, Nat.reduceLeDiff, Nat.le_refl, false_and, if_false]; exact h.g_rest)
  (g_lost := by simp only [ui_ap, show ∀ m, m ≤ 43 → ¬ C + m = x from fun m hm => by omega, show ¬ C = x by omega, Nat.reduceLeDiff, Nat.le_refl, false_and, if_false]; exact h.g_lost)
  (g_spots := by simp only [ui_ap, show ∀ m, m ≤ 43 → ¬ C + m = x from fun m hm => by omega, show ¬ C = x by omega, Nat.reduceLeDiff, Nat.le_refl, false_and, if_false]; exact h.g_spots)
  (g_ask := fun a ha => by
    have q := h.g_ask a ha
    have e : ¬ a = x := fun e => by subst e; omega
    simp only [ui_ap, e, false_and, if_false]
    exact q)
  (g_bnc := fun b hb => by
    have q := h.g_bnc b hb
    have e : ¬ b = x := fun e => by subst e; omega
    simp only [ui_ap, e, false_and, if_false]
    exact q)
  (g_txt := h.g_txt)
  (g_asksR := h.g_asksR)
  (g_asksN := by simp only [ui_ap, show ∀ m, m ≤ 43 → ¬ C + m = x from fun m hm => by omega, show ¬ C = x by omega, Nat.reduceLeDiff, Nat.le_refl, false_and, if_false]; exact h.g_asksN)
  (g_benchesR := h.g_benchesR)
  (g_textsR := h.g_textsR)
  (g_orderR := h.g_orderR)
  (g_bestR := h.g_bestR)
  (g_ringR := h.g_ringR)
  (g_draft := h.g_draft)
  (g_benN := by simp only [ui_ap, show ∀ m, m ≤ 43 → ¬ C + m = x from fun m hm => by omega, show ¬ C = x by omega, Nat.reduceLeDiff, Nat.le_refl, false_and, if_false]; exact h.g_benN)
  (g_benY := by simp only [ui_ap, show ∀ m, m ≤ 43 → ¬ C + m = x from fun m hm => by omega, show ¬ C = x by omega, Nat.reduceLeDiff, Nat.le_refl, false_and, if_false]; exact h.g_benY)
theorem sT_txt (h : cT C K L J R) {x k : Nat} {v : Int32} (hx : C + 96 < x) (hk : K x = 11) : cT C K L (a_ui J x k v) R := cT_mk
  (s := h.s)
  (g_now := by simp only [ui_ap, show ∀ m, m ≤ 43 → ¬ C + m = x from fun m hm => by omega, show ¬ C = x by omega, Nat.reduceLeDiff, Nat.le_refl, false_and, if_false]; exact h.g_now)
  (g_trips := by simp only [ui_ap, show ∀ m, m ≤ 43 → ¬ C + m = x from fun m hm => by omega, show ¬ C = x by omega, Nat.reduceLeDiff, Nat.le_refl, false_and, if_false]; exact h.g_trips)
  (g_texts := by simp only [ui_ap, show ∀ m, m ≤ 43 → ¬ C + m = x from fun m hm => by omega, show ¬ C = x by omega, Nat.reduceLeDiff, Nat.le_refl, false_and, if_false]; exact h.g_texts)
  (g_size := by simp only [ui_ap, show ∀ m, m ≤ 43 → ¬ C + m = x from fun m hm => by omega, show ¬ C = x by omega, Nat.reduceLeDiff, Nat.le_refl, false_and, if_false]; exact h.g_size)
  (g_code := by simp only [ui_ap, show ∀ m, m ≤ 43 → ¬ C + m = x from fun m hm => by omega, show ¬ C = x by omega, Nat.reduceLeDiff, Nat.le_refl, false_and, if_false]; exact h.g_code)
  (g_at := by simp only [ui_ap, show ∀ m, m ≤ 43 → ¬ C + m = x from fun m hm => by omega, show ¬ C = x by omega, Nat.reduceLeDiff, Nat.le_refl, false_and, if_false]; exact h.g_at)
  (g_asks := by simp only [ui_ap, show ∀ m, m ≤ 43 → ¬ C + m = x from fun m hm => by omega, show ¬ C = x by omega, Nat.reduceLeDiff, Nat.le_refl, false_and, if_false]; exact h.g_asks)
  (g_benches := by simp only [ui_ap, show ∀ m, m ≤ 43 → ¬ C + m = x from fun m hm => by omega, show ¬ C = x by omega, Nat.reduceLeDiff, Nat.le_refl, false_and, if_false]; exact h.g_benches)
  (g_orderSize := by simp only [ui_ap, show ∀ m, m ≤ 43 → ¬ C + m = x from fun m hm => by omega, show ¬ C = x by omega, Nat.reduceLeDiff, Nat.le_refl, false_and, if_false]; exact h.g_orderSize)
  (g_passed := by simp only [ui_ap, show ∀ m, m ≤ 43 → ¬ C + m = x from fun m hm => by omega, show ¬ C = x by omega, Nat.reduceLeDiff, Nat.le_refl, false_and, if_false]; exact h.g_passed)
  (g_best := by simp only [ui_ap, show ∀ m, m ≤ 43 → ¬ C + m = x from fun m hm => by omega, show ¬ C = x by omega, Nat.reduceLeDiff, Nat.le_refl, false_and, if_false]; exact h.g_best)
  (g_circle := by simp only [ui_ap, show ∀ m, m ≤ 43 → ¬ C + m = x from fun m hm => by omega, show ¬ C = x by omega, Nat.reduceLeDiff, Nat.le_refl, false_and, if_false]; exact h.g_circle)
  (g_row := by simp only [ui_ap, show ∀ m, m ≤ 43 → ¬ C + m = x from fun m hm => by omega, show ¬ C = x by omega, Nat.reduceLeDiff, Nat.le_refl, false_and, if_false]; exact h.g_row)
  (g_rest := by simp only [ui_ap, show ∀ m, m ≤ 43 → ¬ C + m = x from fun m hm => by omega, show ¬ C = x by omega, Nat.reduceLeDiff, Nat.le_refl, false_and, if_false]; exact h.g_rest)
  (g_lost := by simp only [ui_ap, show ∀ m, m ≤ 43 → ¬ C + m = x from fun m hm => by omega, show ¬ C = x by omega, Nat.reduceLeDiff, Nat.le_refl, false_and, if_false]; exact h.g_lost)
  (g_spots := by simp only [ui_ap, show ∀ m, m ≤ 43 → ¬ C + m = x from fun m hm => by omega, show ¬ C = x by omega, Nat.reduceLeDiff, Nat.le_refl, false_and, if_false]; exact h.g_spots)
  (g_ask := fun a ha => by
    have q := h.g_ask a ha
    have e : ¬ a = x := fun e => by subst e; omega
    simp only [ui_ap, e, false_and, if_false]
    exact q)
  (g_bnc := fun b hb => by
    have q := h.g_bnc b hb
    have e : ¬ b = x := fun e => by subst e; omega
    simp only [ui_ap, e, false_and, if_false]
    exact q)
  (g_txt := h.g_txt)
  (g_asksR := h.g_asksR)
  (g_asksN := by simp only [ui_ap, show ∀ m, m ≤ 43 → ¬ C + m = x from fun m hm => by omega, show ¬ C = x by omega, Nat.reduceLeDiff, Nat.le_refl, false_and, if_false]; exact h.g_asksN)
  (g_benchesR := h.g_benchesR)
  (g_textsR := h.g_textsR)
  (g_orderR := h.g_orderR)
  (g_bestR := h.g_bestR)
  (g_ringR := h.g_ringR)
  (g_draft := h.g_draft)
  (g_benN := by simp only [ui_ap, show ∀ m, m ≤ 43 → ¬ C + m = x from fun m hm => by omega, show ¬ C = x by omega, Nat.reduceLeDiff, Nat.le_refl, false_and, if_false]; exact h.g_benN)
  (g_benY := by simp only [ui_ap, show ∀ m, m ≤ 43 → ¬ C + m = x from fun m hm => by omega, show ¬ C = x by omega, Nat.reduceLeDiff, Nat.le_refl, false_and, if_false]; exact h.g_benY)
theorem sT_past (h : cT C K L J R) {x : Nat} {v : Int32} (hx : C + 96 < x) (hk : K x = 3) (hv : 0 ≤ v ∧ v ≤ 16384 ∧ 5 * v.toNatClampNeg ≤ L (R x 5)) : cT C K L (a_ui J x 6 v) R := cT_mk
  (s := h.s)
  (g_now := by simp only [ui_ap, show ∀ m, m ≤ 43 → ¬ C + m = x from fun m hm => by omega, show ¬ C = x by omega, Nat.reduceLeDiff, Nat.le_refl, false_and, if_false]; exact h.g_now)
  (g_trips := by simp only [ui_ap, show ∀ m, m ≤ 43 → ¬ C + m = x from fun m hm => by omega, show ¬ C = x by omega, Nat.reduceLeDiff, Nat.le_refl, false_and, if_false]; exact h.g_trips)
  (g_texts := by simp only [ui_ap, show ∀ m, m ≤ 43 → ¬ C + m = x from fun m hm => by omega, show ¬ C = x by omega, Nat.reduceLeDiff, Nat.le_refl, false_and, if_false]; exact h.g_texts)
  (g_size := by simp only [ui_ap, show ∀ m, m ≤ 43 → ¬ C + m = x from fun m hm => by omega, show ¬ C = x by omega, Nat.reduceLeDiff, Nat.le_refl, false_and, if_false]; exact h.g_size)
  (g_code := by simp only [ui_ap, show ∀ m, m ≤ 43 → ¬ C + m = x from fun m hm => by omega, show ¬ C = x by omega, Nat.reduceLeDiff, Nat.le_refl, false_and, if_false]; exact h.g_code)
  (g_at := by simp only [ui_ap, show ∀ m, m ≤ 43 → ¬ C + m = x from fun m hm => by omega, show ¬ C = x by omega, Nat.reduceLeDiff, Nat.le_refl, false_and, if_false]; exact h.g_at)
  (g_asks := by simp only [ui_ap, show ∀ m, m ≤ 43 → ¬ C + m = x from fun m hm => by omega, show ¬ C = x by omega, Nat.reduceLeDiff, Nat.le_refl, false_and, if_false]; exact h.g_asks)
  (g_benches := by simp only [ui_ap, show ∀ m, m ≤ 43 → ¬ C + m = x from fun m hm => by omega, show ¬ C = x by omega, Nat.reduceLeDiff, Nat.le_refl, false_and, if_false]; exact h.g_benches)
  (g_orderSize := by simp only [ui_ap, show ∀ m, m ≤ 43 → ¬ C + m = x from fun m hm => by omega, show ¬ C = x by omega, Nat.reduceLeDiff, Nat.le_refl, false_and, if_false]; exact h.g_orderSize)
  (g_passed := by simp only [ui_ap, show ∀ m, m ≤ 43 → ¬ C + m = x from fun m hm => by omega, show ¬ C = x by omega, Nat.reduceLeDiff, Nat.le_refl, false_and, if_false]; exact h.g_passed)
  (g_best := by simp only [ui_ap, show ∀ m, m ≤ 43 → ¬ C + m = x from fun m hm => by omega, show ¬ C = x by omega, Nat.reduceLeDiff, Nat.le_refl, false_and, if_false]; exact h.g_best)
  (g_circle := by simp only [ui_ap, show ∀ m, m ≤ 43 → ¬ C + m = x from fun m hm => by omega, show ¬ C = x by omega, Nat.reduceLeDiff, Nat.le_refl, false_and, if_false]; exact h.g_circle)
  (g_row := by simp only [ui_ap, show ∀ m, m ≤ 43 → ¬ C + m = x from fun m hm => by omega, show ¬ C = x by omega, Nat.reduceLeDiff, Nat.le_refl, false_and, if_false]; exact h.g_row)
  (g_rest := by simp only [ui_ap, show ∀ m, m ≤ 43 → ¬ C + m = x from fun m hm => by omega, show ¬ C = x by omega, Nat.reduceLeDiff, Nat.le_refl, false_and, if_false]; exact h.g_rest)
  (g_lost := by simp only [ui_ap, show ∀ m, m ≤ 43 → ¬ C + m = x from fun m hm => by omega, show ¬ C = x by omega, Nat.reduceLeDiff, Nat.le_refl, false_and, if_false]; exact h.g_lost)
  (g_spots := by simp only [ui_ap, show ∀ m, m ≤ 43 → ¬ C + m = x from fun m hm => by omega, show ¬ C = x by omega, Nat.reduceLeDiff, Nat.le_refl, false_and, if_false]; exact h.g_spots)
  (g_ask := fun a ha => by
    have q := h.g_ask a ha
    have e : ¬ a = x := fun e => by subst e; omega
    simp only [ui_ap, e, false_and, if_false]
    exact q)
  (g_bnc := fun b hb => by
    have q := h.g_bnc b hb
    by_cases e : b = x
    · subst e
      simp only [ui_ap, and_self, if_true]
      exact ⟨q.1, q.2.1, q.2.2.1, q.2.2.2.1, q.2.2.2.2.1, hv⟩
    · simp only [ui_ap, e, false_and, if_false]
      exact q)
  (g_txt := h.g_txt)
  (g_asksR := h.g_asksR)
  (g_asksN := by simp only [ui_ap, show ∀ m, m ≤ 43 → ¬ C + m = x from fun m hm => by omega, show ¬ C = x by omega, Nat.reduceLeDiff, Nat.le_refl, false_and, if_false]; exact h.g_asksN)
  (g_benchesR := h.g_benchesR)
  (g_textsR := h.g_textsR)
  (g_orderR := h.g_orderR)
  (g_bestR := h.g_bestR)
  (g_ringR := h.g_ringR)
  (g_draft := h.g_draft)
  (g_benN := by simp only [ui_ap, show ∀ m, m ≤ 43 → ¬ C + m = x from fun m hm => by omega, show ¬ C = x by omega, Nat.reduceLeDiff, Nat.le_refl, false_and, if_false]; exact h.g_benN)
  (g_benY := by simp only [ui_ap, show ∀ m, m ≤ 43 → ¬ C + m = x from fun m hm => by omega, show ¬ C = x by omega, Nat.reduceLeDiff, Nat.le_refl, false_and, if_false]; exact h.g_benY)
theorem sT_askf (h : cT C K L J R) {x k : Nat} {v : Int32} (hx : C + 96 < x) (hk : K x = 1) (hf : ¬ k = 2 ∧ ¬ k = 4 ∧ ¬ k = 13 ∧ ¬ k = 14) : cT C K L (a_ui J x k v) R := cT_mk
  (s := h.s)
  (g_now := by simp only [ui_ap, show ∀ m, m ≤ 43 → ¬ C + m = x from fun m hm => by omega, show ¬ C = x by omega, Nat.reduceLeDiff, Nat.le_refl, false_and, if_false]; exact h.g_now)
  (g_trips := by simp only [ui_ap, show ∀ m, m ≤ 43 → ¬ C + m = x from fun m hm => by omega, show ¬ C = x by omega, Nat.reduceLeDiff, Nat.le_refl, false_and, if_false]; exact h.g_trips)
  (g_texts := by simp only [ui_ap, show ∀ m, m ≤ 43 → ¬ C + m = x from fun m hm => by omega, show ¬ C = x by omega, Nat.reduceLeDiff, Nat.le_refl, false_and, if_false]; exact h.g_texts)
  (g_size := by simp only [ui_ap, show ∀ m, m ≤ 43 → ¬ C + m = x from fun m hm => by omega, show ¬ C = x by omega, Nat.reduceLeDiff, Nat.le_refl, false_and, if_false]; exact h.g_size)
  (g_code := by simp only [ui_ap, show ∀ m, m ≤ 43 → ¬ C + m = x from fun m hm => by omega, show ¬ C = x by omega, Nat.reduceLeDiff, Nat.le_refl, false_and, if_false]; exact h.g_code)
  (g_at := by simp only [ui_ap, show ∀ m, m ≤ 43 → ¬ C + m = x from fun m hm => by omega, show ¬ C = x by omega, Nat.reduceLeDiff, Nat.le_refl, false_and, if_false]; exact h.g_at)
  (g_asks := by simp only [ui_ap, show ∀ m, m ≤ 43 → ¬ C + m = x from fun m hm => by omega, show ¬ C = x by omega, Nat.reduceLeDiff, Nat.le_refl, false_and, if_false]; exact h.g_asks)
  (g_benches := by simp only [ui_ap, show ∀ m, m ≤ 43 → ¬ C + m = x from fun m hm => by omega, show ¬ C = x by omega, Nat.reduceLeDiff, Nat.le_refl, false_and, if_false]; exact h.g_benches)
  (g_orderSize := by simp only [ui_ap, show ∀ m, m ≤ 43 → ¬ C + m = x from fun m hm => by omega, show ¬ C = x by omega, Nat.reduceLeDiff, Nat.le_refl, false_and, if_false]; exact h.g_orderSize)
  (g_passed := by simp only [ui_ap, show ∀ m, m ≤ 43 → ¬ C + m = x from fun m hm => by omega, show ¬ C = x by omega, Nat.reduceLeDiff, Nat.le_refl, false_and, if_false]; exact h.g_passed)
  (g_best := by simp only [ui_ap, show ∀ m, m ≤ 43 → ¬ C + m = x from fun m hm => by omega, show ¬ C = x by omega, Nat.reduceLeDiff, Nat.le_refl, false_and, if_false]; exact h.g_best)
  (g_circle := by simp only [ui_ap, show ∀ m, m ≤ 43 → ¬ C + m = x from fun m hm => by omega, show ¬ C = x by omega, Nat.reduceLeDiff, Nat.le_refl, false_and, if_false]; exact h.g_circle)
  (g_row := by simp only [ui_ap, show ∀ m, m ≤ 43 → ¬ C + m = x from fun m hm => by omega, show ¬ C = x by omega, Nat.reduceLeDiff, Nat.le_refl, false_and, if_false]; exact h.g_row)
  (g_rest := by simp only [ui_ap, show ∀ m, m ≤ 43 → ¬ C + m = x from fun m hm => by omega, show ¬ C = x by omega, Nat.reduceLeDiff, Nat.le_refl, false_and, if_false]; exact h.g_rest)
  (g_lost := by simp only [ui_ap, show ∀ m, m ≤ 43 → ¬ C + m = x from fun m hm => by omega, show ¬ C = x by omega, Nat.reduceLeDiff, Nat.le_refl, false_and, if_false]; exact h.g_lost)
  (g_spots := by simp only [ui_ap, show ∀ m, m ≤ 43 → ¬ C + m = x from fun m hm => by omega, show ¬ C = x by omega, Nat.reduceLeDiff, Nat.le_refl, false_and, if_false]; exact h.g_spots)
  (g_ask := fun a ha => by
    have q := h.g_ask a ha
    simp only [ui_ap, show ¬ 2 = k from fun e => hf.1 e.symm, show ¬ 4 = k from fun e => hf.2.1 e.symm, show ¬ 13 = k from fun e => hf.2.2.1 e.symm, show ¬ 14 = k from fun e => hf.2.2.2 e.symm, and_false, if_false]
    exact q)
  (g_bnc := fun b hb => by
    have q := h.g_bnc b hb
    have e : ¬ b = x := fun e => by subst e; omega
    simp only [ui_ap, e, false_and, if_false]
    exact q)
  (g_txt := h.g_txt)
  (g_asksR := h.g_asksR)
  (g_asksN := by simp only [ui_ap, show ∀ m, m ≤ 43 → ¬ C + m = x from fun m hm => by omega, show ¬ C = x by omega, Nat.reduceLeDiff, Nat.le_refl, false_and, if_false]; exact h.g_asksN)
  (g_benchesR := h.g_benchesR)
  (g_textsR := h.g_textsR)
  (g_orderR := h.g_orderR)
  (g_bestR := h.g_bestR)
  (g_ringR := h.g_ringR)
  (g_draft := h.g_draft)
  (g_benN := by simp only [ui_ap, show ∀ m, m ≤ 43 → ¬ C + m = x from fun m hm => by omega, show ¬ C = x by omega, Nat.reduceLeDiff, Nat.le_refl, false_and, if_false]; exact h.g_benN)
  (g_benY := by simp only [ui_ap, show ∀ m, m ≤ 43 → ¬ C + m = x from fun m hm => by omega, show ¬ C = x by omega, Nat.reduceLeDiff, Nat.le_refl, false_and, if_false]; exact h.g_benY)
theorem sT_number (h : cT C K L J R) {x : Nat} {v : Int32} (hx : C + 96 < x) (hk : K x = 1) (hv : 0 ≤ v ∧ v ≤ 29) : cT C K L (a_ui J x 4 v) R := cT_mk
  (s := h.s)
  (g_now := by simp only [ui_ap, show ∀ m, m ≤ 43 → ¬ C + m = x from fun m hm => by omega, show ¬ C = x by omega, Nat.reduceLeDiff, Nat.le_refl, false_and, if_false]; exact h.g_now)
  (g_trips := by simp only [ui_ap, show ∀ m, m ≤ 43 → ¬ C + m = x from fun m hm => by omega, show ¬ C = x by omega, Nat.reduceLeDiff, Nat.le_refl, false_and, if_false]; exact h.g_trips)
  (g_texts := by simp only [ui_ap, show ∀ m, m ≤ 43 → ¬ C + m = x from fun m hm => by omega, show ¬ C = x by omega, Nat.reduceLeDiff, Nat.le_refl, false_and, if_false]; exact h.g_texts)
  (g_size := by simp only [ui_ap, show ∀ m, m ≤ 43 → ¬ C + m = x from fun m hm => by omega, show ¬ C = x by omega, Nat.reduceLeDiff, Nat.le_refl, false_and, if_false]; exact h.g_size)
  (g_code := by simp only [ui_ap, show ∀ m, m ≤ 43 → ¬ C + m = x from fun m hm => by omega, show ¬ C = x by omega, Nat.reduceLeDiff, Nat.le_refl, false_and, if_false]; exact h.g_code)
  (g_at := by simp only [ui_ap, show ∀ m, m ≤ 43 → ¬ C + m = x from fun m hm => by omega, show ¬ C = x by omega, Nat.reduceLeDiff, Nat.le_refl, false_and, if_false]; exact h.g_at)
  (g_asks := by simp only [ui_ap, show ∀ m, m ≤ 43 → ¬ C + m = x from fun m hm => by omega, show ¬ C = x by omega, Nat.reduceLeDiff, Nat.le_refl, false_and, if_false]; exact h.g_asks)
  (g_benches := by simp only [ui_ap, show ∀ m, m ≤ 43 → ¬ C + m = x from fun m hm => by omega, show ¬ C = x by omega, Nat.reduceLeDiff, Nat.le_refl, false_and, if_false]; exact h.g_benches)
  (g_orderSize := by simp only [ui_ap, show ∀ m, m ≤ 43 → ¬ C + m = x from fun m hm => by omega, show ¬ C = x by omega, Nat.reduceLeDiff, Nat.le_refl, false_and, if_false]; exact h.g_orderSize)
  (g_passed := by simp only [ui_ap, show ∀ m, m ≤ 43 → ¬ C + m = x from fun m hm => by omega, show ¬ C = x by omega, Nat.reduceLeDiff, Nat.le_refl, false_and, if_false]; exact h.g_passed)
  (g_best := by simp only [ui_ap, show ∀ m, m ≤ 43 → ¬ C + m = x from fun m hm => by omega, show ¬ C = x by omega, Nat.reduceLeDiff, Nat.le_refl, false_and, if_false]; exact h.g_best)
  (g_circle := by simp only [ui_ap, show ∀ m, m ≤ 43 → ¬ C + m = x from fun m hm => by omega, show ¬ C = x by omega, Nat.reduceLeDiff, Nat.le_refl, false_and, if_false]; exact h.g_circle)
  (g_row := by simp only [ui_ap, show ∀ m, m ≤ 43 → ¬ C + m = x from fun m hm => by omega, show ¬ C = x by omega, Nat.reduceLeDiff, Nat.le_refl, false_and, if_false]; exact h.g_row)
  (g_rest := by simp only [ui_ap, show ∀ m, m ≤ 43 → ¬ C + m = x from fun m hm => by omega, show ¬ C = x by omega, Nat.reduceLeDiff, Nat.le_refl, false_and, if_false]; exact h.g_rest)
  (g_lost := by simp only [ui_ap, show ∀ m, m ≤ 43 → ¬ C + m = x from fun m hm => by omega, show ¬ C = x by omega, Nat.reduceLeDiff, Nat.le_refl, false_and, if_false]; exact h.g_lost)
  (g_spots := by simp only [ui_ap, show ∀ m, m ≤ 43 → ¬ C + m = x from fun m hm => by omega, show ¬ C = x by omega, Nat.reduceLeDiff, Nat.le_refl, false_and, if_false]; exact h.g_spots)
  (g_ask := fun a ha => by
    have q := h.g_ask a ha
    by_cases e : a = x
    · subst e
      simp only [ui_ap, and_self, true_and, if_true, Nat.reduceEqDiff, if_false]
      exact ⟨q.1, q.2.1, hv, q.2.2.2⟩
    · simp only [ui_ap, e, false_and, if_false]
      exact q)
  (g_bnc := fun b hb => by
    have q := h.g_bnc b hb
    have e : ¬ b = x := fun e => by subst e; omega
    simp only [ui_ap, e, false_and, if_false]
    exact q)
  (g_txt := h.g_txt)
  (g_asksR := h.g_asksR)
  (g_asksN := by simp only [ui_ap, show ∀ m, m ≤ 43 → ¬ C + m = x from fun m hm => by omega, show ¬ C = x by omega, Nat.reduceLeDiff, Nat.le_refl, false_and, if_false]; exact h.g_asksN)
  (g_benchesR := h.g_benchesR)
  (g_textsR := h.g_textsR)
  (g_orderR := h.g_orderR)
  (g_bestR := h.g_bestR)
  (g_ringR := h.g_ringR)
  (g_draft := h.g_draft)
  (g_benN := by simp only [ui_ap, show ∀ m, m ≤ 43 → ¬ C + m = x from fun m hm => by omega, show ¬ C = x by omega, Nat.reduceLeDiff, Nat.le_refl, false_and, if_false]; exact h.g_benN)
  (g_benY := by simp only [ui_ap, show ∀ m, m ≤ 43 → ¬ C + m = x from fun m hm => by omega, show ¬ C = x by omega, Nat.reduceLeDiff, Nat.le_refl, false_and, if_false]; exact h.g_benY)
theorem sT_place (h : cT C K L J R) {x : Nat} {w v : Int32} (hx : C + 96 < x) (hk : K x = 1) (hv : 0 ≤ w → 0 ≤ v ∧ v ≤ 199 ∧ v + J x 2 ≤ 200) : cT C K L (a_ui (a_ui J x 13 w) x 14 v) R := cT_mk
  (s := h.s)
  (g_now := by simp only [ui_ap, show ∀ m, m ≤ 43 → ¬ C + m = x from fun m hm => by omega, show ¬ C = x by omega, Nat.reduceLeDiff, Nat.le_refl, false_and, if_false]; exact h.g_now)
  (g_trips := by simp only [ui_ap, show ∀ m, m ≤ 43 → ¬ C + m = x from fun m hm => by omega, show ¬ C = x by omega, Nat.reduceLeDiff, Nat.le_refl, false_and, if_false]; exact h.g_trips)
  (g_texts := by simp only [ui_ap, show ∀ m, m ≤ 43 → ¬ C + m = x from fun m hm => by omega, show ¬ C = x by omega, Nat.reduceLeDiff, Nat.le_refl, false_and, if_false]; exact h.g_texts)
  (g_size := by simp only [ui_ap, show ∀ m, m ≤ 43 → ¬ C + m = x from fun m hm => by omega, show ¬ C = x by omega, Nat.reduceLeDiff, Nat.le_refl, false_and, if_false]; exact h.g_size)
  (g_code := by simp only [ui_ap, show ∀ m, m ≤ 43 → ¬ C + m = x from fun m hm => by omega, show ¬ C = x by omega, Nat.reduceLeDiff, Nat.le_refl, false_and, if_false]; exact h.g_code)
  (g_at := by simp only [ui_ap, show ∀ m, m ≤ 43 → ¬ C + m = x from fun m hm => by omega, show ¬ C = x by omega, Nat.reduceLeDiff, Nat.le_refl, false_and, if_false]; exact h.g_at)
  (g_asks := by simp only [ui_ap, show ∀ m, m ≤ 43 → ¬ C + m = x from fun m hm => by omega, show ¬ C = x by omega, Nat.reduceLeDiff, Nat.le_refl, false_and, if_false]; exact h.g_asks)
  (g_benches := by simp only [ui_ap, show ∀ m, m ≤ 43 → ¬ C + m = x from fun m hm => by omega, show ¬ C = x by omega, Nat.reduceLeDiff, Nat.le_refl, false_and, if_false]; exact h.g_benches)
  (g_orderSize := by simp only [ui_ap, show ∀ m, m ≤ 43 → ¬ C + m = x from fun m hm => by omega, show ¬ C = x by omega, Nat.reduceLeDiff, Nat.le_refl, false_and, if_false]; exact h.g_orderSize)
  (g_passed := by simp only [ui_ap, show ∀ m, m ≤ 43 → ¬ C + m = x from fun m hm => by omega, show ¬ C = x by omega, Nat.reduceLeDiff, Nat.le_refl, false_and, if_false]; exact h.g_passed)
  (g_best := by simp only [ui_ap, show ∀ m, m ≤ 43 → ¬ C + m = x from fun m hm => by omega, show ¬ C = x by omega, Nat.reduceLeDiff, Nat.le_refl, false_and, if_false]; exact h.g_best)
  (g_circle := by simp only [ui_ap, show ∀ m, m ≤ 43 → ¬ C + m = x from fun m hm => by omega, show ¬ C = x by omega, Nat.reduceLeDiff, Nat.le_refl, false_and, if_false]; exact h.g_circle)
  (g_row := by simp only [ui_ap, show ∀ m, m ≤ 43 → ¬ C + m = x from fun m hm => by omega, show ¬ C = x by omega, Nat.reduceLeDiff, Nat.le_refl, false_and, if_false]; exact h.g_row)
  (g_rest := by simp only [ui_ap, show ∀ m, m ≤ 43 → ¬ C + m = x from fun m hm => by omega, show ¬ C = x by omega, Nat.reduceLeDiff, Nat.le_refl, false_and, if_false]; exact h.g_rest)
  (g_lost := by simp only [ui_ap, show ∀ m, m ≤ 43 → ¬ C + m = x from fun m hm => by omega, show ¬ C = x by omega, Nat.reduceLeDiff, Nat.le_refl, false_and, if_false]; exact h.g_lost)
  (g_spots := by simp only [ui_ap, show ∀ m, m ≤ 43 → ¬ C + m = x from fun m hm => by omega, show ¬ C = x by omega, Nat.reduceLeDiff, Nat.le_refl, false_and, if_false]; exact h.g_spots)
  (g_ask := fun a ha => by
    have q := h.g_ask a ha
    by_cases e : a = x
    · subst e
      simp only [ui_ap, and_self, true_and, if_true, Nat.reduceEqDiff, if_false]
      exact ⟨q.1, q.2.1, q.2.2.1, hv⟩
    · simp only [ui_ap, e, false_and, if_false]
      exact q)
  (g_bnc := fun b hb => by
    have q := h.g_bnc b hb
    have e : ¬ b = x := fun e => by subst e; omega
    simp only [ui_ap, e, false_and, if_false]
    exact q)
  (g_txt := h.g_txt)
  (g_asksR := h.g_asksR)
  (g_asksN := by simp only [ui_ap, show ∀ m, m ≤ 43 → ¬ C + m = x from fun m hm => by omega, show ¬ C = x by omega, Nat.reduceLeDiff, Nat.le_refl, false_and, if_false]; exact h.g_asksN)
  (g_benchesR := h.g_benchesR)
  (g_textsR := h.g_textsR)
  (g_orderR := h.g_orderR)
  (g_bestR := h.g_bestR)
  (g_ringR := h.g_ringR)
  (g_draft := h.g_draft)
  (g_benN := by simp only [ui_ap, show ∀ m, m ≤ 43 → ¬ C + m = x from fun m hm => by omega, show ¬ C = x by omega, Nat.reduceLeDiff, Nat.le_refl, false_and, if_false]; exact h.g_benN)
  (g_benY := by simp only [ui_ap, show ∀ m, m ≤ 43 → ¬ C + m = x from fun m hm => by omega, show ¬ C = x by omega, Nat.reduceLeDiff, Nat.le_refl, false_and, if_false]; exact h.g_benY)
theorem sT_Rasks (h : cT C K L J R) {k v : Nat} (hv : v = 0 ∨ K v = 1) (hn : ¬ v = 0) : cT C K L J (a_ur R (C + 15) k v) := cT_mk
  (s := iR_15 h.s)
  (g_now := h.g_now)
  (g_trips := h.g_trips)
  (g_texts := h.g_texts)
  (g_size := h.g_size)
  (g_code := h.g_code)
  (g_at := h.g_at)
  (g_asks := h.g_asks)
  (g_benches := h.g_benches)
  (g_orderSize := h.g_orderSize)
  (g_passed := h.g_passed)
  (g_best := h.g_best)
  (g_circle := h.g_circle)
  (g_row := h.g_row)
  (g_rest := h.g_rest)
  (g_lost := h.g_lost)
  (g_spots := h.g_spots)
  (g_ask := h.g_ask)
  (g_bnc := fun b hb => by
    have q := h.g_bnc b hb
    have e : ¬ b = C + 15 := by omega
    simp only [ur_ap, e, false_and, if_false]
    exact q)
  (g_txt := fun b hb => by
    have q := h.g_txt b hb
    have e : ¬ b = C + 15 := by omega
    simp only [ur_ap, e, false_and, if_false]
    exact q)
  (g_asksR := fun j => by
    rw [ur_ap]
    split
    · exact hv
    · exact h.g_asksR j)
  (g_asksN := fun i h0 h1 => by
    rw [ur_ap]
    split
    · exact hn
    · exact h.g_asksN i h0 h1)
  (g_benchesR := by simp only [ur_ap, cc_ne, cc_n0, cc_0n, Nat.reduceEqDiff, reduceCtorEq, false_and, and_false, if_false]; exact h.g_benchesR)
  (g_textsR := by simp only [ur_ap, cc_ne, cc_n0, cc_0n, Nat.reduceEqDiff, reduceCtorEq, false_and, and_false, if_false]; exact h.g_textsR)
  (g_orderR := by simp only [ur_ap, cc_ne, cc_n0, cc_0n, Nat.reduceEqDiff, reduceCtorEq, false_and, and_false, if_false]; exact h.g_orderR)
  (g_bestR := by simp only [ur_ap, cc_ne, cc_n0, cc_0n, Nat.reduceEqDiff, reduceCtorEq, false_and, and_false, if_false]; exact h.g_bestR)
  (g_ringR := by simp only [ur_ap, cc_ne, cc_n0, cc_0n, Nat.reduceEqDiff, reduceCtorEq, false_and, and_false, if_false]; exact h.g_ringR)
  (g_draft := by simp only [ur_ap, cc_ne, cc_n0, cc_0n, Nat.reduceEqDiff, reduceCtorEq, false_and, and_false, if_false]; exact h.g_draft)
  (g_benN := by simp only [ur_ap, cc_ne, cc_n0, cc_0n, Nat.reduceEqDiff, reduceCtorEq, false_and, and_false, if_false]; exact h.g_benN)
  (g_benY := by simp only [ur_ap, cc_ne, cc_n0, cc_0n, Nat.reduceEqDiff, reduceCtorEq, false_and, and_false, if_false]; exact h.g_benY)
theorem sT_Rtexts (h : cT C K L J R) {k v : Nat} (hv : v = 0 ∨ K v = 11) : cT C K L J (a_ur R (C + 8) k v) := cT_mk
  (s := iR_8 h.s)
  (g_now := h.g_now)
  (g_trips := h.g_trips)
  (g_texts := h.g_texts)
  (g_size := h.g_size)
  (g_code := h.g_code)
  (g_at := h.g_at)
  (g_asks := h.g_asks)
  (g_benches := h.g_benches)
  (g_orderSize := h.g_orderSize)
  (g_passed := h.g_passed)
  (g_best := h.g_best)
  (g_circle := h.g_circle)
  (g_row := h.g_row)
  (g_rest := h.g_rest)
  (g_lost := h.g_lost)
  (g_spots := h.g_spots)
  (g_ask := h.g_ask)
  (g_bnc := fun b hb => by
    have q := h.g_bnc b hb
    have e : ¬ b = C + 8 := by omega
    simp only [ur_ap, e, false_and, if_false]
    exact q)
  (g_txt := fun b hb => by
    have q := h.g_txt b hb
    have e : ¬ b = C + 8 := by omega
    simp only [ur_ap, e, false_and, if_false]
    exact q)
  (g_asksR := by simp only [ur_ap, cc_ne, cc_n0, cc_0n, Nat.reduceEqDiff, reduceCtorEq, false_and, and_false, if_false]; exact h.g_asksR)
  (g_asksN := by simp only [ur_ap, cc_ne, cc_n0, cc_0n, Nat.reduceEqDiff, reduceCtorEq, false_and, and_false, if_false]; exact h.g_asksN)
  (g_benchesR := by simp only [ur_ap, cc_ne, cc_n0, cc_0n, Nat.reduceEqDiff, reduceCtorEq, false_and, and_false, if_false]; exact h.g_benchesR)
  (g_textsR := fun j => by
    rw [ur_ap]
    split
    · exact hv
    · exact h.g_textsR j)
  (g_orderR := by simp only [ur_ap, cc_ne, cc_n0, cc_0n, Nat.reduceEqDiff, reduceCtorEq, false_and, and_false, if_false]; exact h.g_orderR)
  (g_bestR := by simp only [ur_ap, cc_ne, cc_n0, cc_0n, Nat.reduceEqDiff, reduceCtorEq, false_and, and_false, if_false]; exact h.g_bestR)
  (g_ringR := by simp only [ur_ap, cc_ne, cc_n0, cc_0n, Nat.reduceEqDiff, reduceCtorEq, false_and, and_false, if_false]; exact h.g_ringR)
  (g_draft := by simp only [ur_ap, cc_ne, cc_n0, cc_0n, Nat.reduceEqDiff, reduceCtorEq, false_and, and_false, if_false]; exact h.g_draft)
  (g_benN := by simp only [ur_ap, cc_ne, cc_n0, cc_0n, Nat.reduceEqDiff, reduceCtorEq, false_and, and_false, if_false]; exact h.g_benN)
  (g_benY := by simp only [ur_ap, cc_ne, cc_n0, cc_0n, Nat.reduceEqDiff, reduceCtorEq, false_and, and_false, if_false]; exact h.g_benY)
theorem sT_Rorder (h : cT C K L J R) {k v : Nat} (hv : v = 0 ∨ K v = 1) : cT C K L J (a_ur R (C + 23) k v) := cT_mk
  (s := iR_23 h.s)
  (g_now := h.g_now)
  (g_trips := h.g_trips)
  (g_texts := h.g_texts)
  (g_size := h.g_size)
  (g_code := h.g_code)
  (g_at := h.g_at)
  (g_asks := h.g_asks)
  (g_benches := h.g_benches)
  (g_orderSize := h.g_orderSize)
  (g_passed := h.g_passed)
  (g_best := h.g_best)
  (g_circle := h.g_circle)
  (g_row := h.g_row)
  (g_rest := h.g_rest)
  (g_lost := h.g_lost)
  (g_spots := h.g_spots)
  (g_ask := h.g_ask)
  (g_bnc := fun b hb => by
    have q := h.g_bnc b hb
    have e : ¬ b = C + 23 := by omega
    simp only [ur_ap, e, false_and, if_false]
    exact q)
  (g_txt := fun b hb => by
    have q := h.g_txt b hb
    have e : ¬ b = C + 23 := by omega
    simp only [ur_ap, e, false_and, if_false]
    exact q)
  (g_asksR := by simp only [ur_ap, cc_ne, cc_n0, cc_0n, Nat.reduceEqDiff, reduceCtorEq, false_and, and_false, if_false]; exact h.g_asksR)
  (g_asksN := by simp only [ur_ap, cc_ne, cc_n0, cc_0n, Nat.reduceEqDiff, reduceCtorEq, false_and, and_false, if_false]; exact h.g_asksN)
  (g_benchesR := by simp only [ur_ap, cc_ne, cc_n0, cc_0n, Nat.reduceEqDiff, reduceCtorEq, false_and, and_false, if_false]; exact h.g_benchesR)
  (g_textsR := by simp only [ur_ap, cc_ne, cc_n0, cc_0n, Nat.reduceEqDiff, reduceCtorEq, false_and, and_false, if_false]; exact h.g_textsR)
  (g_orderR := fun j => by
    rw [ur_ap]
    split
    · exact hv
    · exact h.g_orderR j)
  (g_bestR := by simp only [ur_ap, cc_ne, cc_n0, cc_0n, Nat.reduceEqDiff, reduceCtorEq, false_and, and_false, if_false]; exact h.g_bestR)
  (g_ringR := by simp only [ur_ap, cc_ne, cc_n0, cc_0n, Nat.reduceEqDiff, reduceCtorEq, false_and, and_false, if_false]; exact h.g_ringR)
  (g_draft := by simp only [ur_ap, cc_ne, cc_n0, cc_0n, Nat.reduceEqDiff, reduceCtorEq, false_and, and_false, if_false]; exact h.g_draft)
  (g_benN := by simp only [ur_ap, cc_ne, cc_n0, cc_0n, Nat.reduceEqDiff, reduceCtorEq, false_and, and_false, if_false]; exact h.g_benN)
  (g_benY := by simp only [ur_ap, cc_ne, cc_n0, cc_0n, Nat.reduceEqDiff, reduceCtorEq, false_and, and_false, if_false]; exact h.g_benY)
theorem sT_Rbest (h : cT C K L J R) {k v : Nat} (hv : v = 0 ∨ K v = 1) : cT C K L J (a_ur R (C + 28) k v) := cT_mk
  (s := iR_28 h.s)
  (g_now := h.g_now)
  (g_trips := h.g_trips)
  (g_texts := h.g_texts)
  (g_size := h.g_size)
  (g_code := h.g_code)
  (g_at := h.g_at)
  (g_asks := h.g_asks)
  (g_benches := h.g_benches)
  (g_orderSize := h.g_orderSize)
  (g_passed := h.g_passed)
  (g_best := h.g_best)
  (g_circle := h.g_circle)
  (g_row := h.g_row)
  (g_rest := h.g_rest)
  (g_lost := h.g_lost)
  (g_spots := h.g_spots)
  (g_ask := h.g_ask)
  (g_bnc := fun b hb => by
    have q := h.g_bnc b hb
    have e : ¬ b = C + 28 := by omega
    simp only [ur_ap, e, false_and, if_false]
    exact q)
  (g_txt := fun b hb => by
    have q := h.g_txt b hb
    have e : ¬ b = C + 28 := by omega
    simp only [ur_ap, e, false_and, if_false]
    exact q)
  (g_asksR := by simp only [ur_ap, cc_ne, cc_n0, cc_0n, Nat.reduceEqDiff, reduceCtorEq, false_and, and_false, if_false]; exact h.g_asksR)
  (g_asksN := by simp only [ur_ap, cc_ne, cc_n0, cc_0n, Nat.reduceEqDiff, reduceCtorEq, false_and, and_false, if_false]; exact h.g_asksN)
  (g_benchesR := by simp only [ur_ap, cc_ne, cc_n0, cc_0n, Nat.reduceEqDiff, reduceCtorEq, false_and, and_false, if_false]; exact h.g_benchesR)
  (g_textsR := by simp only [ur_ap, cc_ne, cc_n0, cc_0n, Nat.reduceEqDiff, reduceCtorEq, false_and, and_false, if_false]; exact h.g_textsR)
  (g_orderR := by simp only [ur_ap, cc_ne, cc_n0, cc_0n, Nat.reduceEqDiff, reduceCtorEq, false_and, and_false, if_false]; exact h.g_orderR)
  (g_bestR := fun j => by
    rw [ur_ap]
    split
    · exact hv
    · exact h.g_bestR j)
  (g_ringR := by simp only [ur_ap, cc_ne, cc_n0, cc_0n, Nat.reduceEqDiff, reduceCtorEq, false_and, and_false, if_false]; exact h.g_ringR)
  (g_draft := by simp only [ur_ap, cc_ne, cc_n0, cc_0n, Nat.reduceEqDiff, reduceCtorEq, false_and, and_false, if_false]; exact h.g_draft)
  (g_benN := by simp only [ur_ap, cc_ne, cc_n0, cc_0n, Nat.reduceEqDiff, reduceCtorEq, false_and, and_false, if_false]; exact h.g_benN)
  (g_benY := by simp only [ur_ap, cc_ne, cc_n0, cc_0n, Nat.reduceEqDiff, reduceCtorEq, false_and, and_false, if_false]; exact h.g_benY)
theorem sT_Rring (h : cT C K L J R) {k v : Nat} (hv : v = 0 ∨ K v = 1) : cT C K L J (a_ur R (C + 38) k v) := cT_mk
  (s := iR_38 h.s)
  (g_now := h.g_now)
  (g_trips := h.g_trips)
  (g_texts := h.g_texts)
  (g_size := h.g_size)
  (g_code := h.g_code)
  (g_at := h.g_at)
  (g_asks := h.g_asks)
  (g_benches := h.g_benches)
  (g_orderSize := h.g_orderSize)
  (g_passed := h.g_passed)
  (g_best := h.g_best)
  (g_circle := h.g_circle)
  (g_row := h.g_row)
  (g_rest := h.g_rest)
  (g_lost := h.g_lost)
  (g_spots := h.g_spots)
  (g_ask := h.g_ask)
  (g_bnc := fun b hb => by
    have q := h.g_bnc b hb
    have e : ¬ b = C + 38 := by omega
    simp only [ur_ap, e, false_and, if_false]
    exact q)
  (g_txt := fun b hb => by
    have q := h.g_txt b hb
    have e : ¬ b = C + 38 := by omega
    simp only [ur_ap, e, false_and, if_false]
    exact q)
  (g_asksR := by simp only [ur_ap, cc_ne, cc_n0, cc_0n, Nat.reduceEqDiff, reduceCtorEq, false_and, and_false, if_false]; exact h.g_asksR)
  (g_asksN := by simp only [ur_ap, cc_ne, cc_n0, cc_0n, Nat.reduceEqDiff, reduceCtorEq, false_and, and_false, if_false]; exact h.g_asksN)
  (g_benchesR := by simp only [ur_ap, cc_ne, cc_n0, cc_0n, Nat.reduceEqDiff, reduceCtorEq, false_and, and_false, if_false]; exact h.g_benchesR)
  (g_textsR := by simp only [ur_ap, cc_ne, cc_n0, cc_0n, Nat.reduceEqDiff, reduceCtorEq, false_and, and_false, if_false]; exact h.g_textsR)
  (g_orderR := by simp only [ur_ap, cc_ne, cc_n0, cc_0n, Nat.reduceEqDiff, reduceCtorEq, false_and, and_false, if_false]; exact h.g_orderR)
  (g_bestR := by simp only [ur_ap, cc_ne, cc_n0, cc_0n, Nat.reduceEqDiff, reduceCtorEq, false_and, and_false, if_false]; exact h.g_bestR)
  (g_ringR := fun j => by
    rw [ur_ap]
    split
    · exact hv
    · exact h.g_ringR j)
  (g_draft := by simp only [ur_ap, cc_ne, cc_n0, cc_0n, Nat.reduceEqDiff, reduceCtorEq, false_and, and_false, if_false]; exact h.g_draft)
  (g_benN := by simp only [ur_ap, cc_ne, cc_n0, cc_0n, Nat.reduceEqDiff, reduceCtorEq, false_and, and_false, if_false]; exact h.g_benN)
  (g_benY := by simp only [ur_ap, cc_ne, cc_n0, cc_0n, Nat.reduceEqDiff, reduceCtorEq, false_and, and_false, if_false]; exact h.g_benY)
theorem sT_Rdraft (h : cT C K L J R) {v : Nat} (hv : v = 0 ∨ K v = 1) : cT C K L J (a_ur R (C) 11 v) := cT_mk
  (s := iR_d h.s)
  (g_now := h.g_now)
  (g_trips := h.g_trips)
  (g_texts := h.g_texts)
  (g_size := h.g_size)
  (g_code := h.g_code)
  (g_at := h.g_at)
  (g_asks := h.g_asks)
  (g_benches := h.g_benches)
  (g_orderSize := h.g_orderSize)
  (g_passed := h.g_passed)
  (g_best := h.g_best)
  (g_circle := h.g_circle)
  (g_row := h.g_row)
  (g_rest := h.g_rest)
  (g_lost := h.g_lost)
  (g_spots := h.g_spots)
  (g_ask := h.g_ask)
  (g_bnc := fun b hb => by
    have q := h.g_bnc b hb
    have e : ¬ b = C := by omega
    simp only [ur_ap, e, false_and, if_false]
    exact q)
  (g_txt := fun b hb => by
    have q := h.g_txt b hb
    have e : ¬ b = C := by omega
    simp only [ur_ap, e, false_and, if_false]
    exact q)
  (g_asksR := by simp only [ur_ap, cc_ne, cc_n0, cc_0n, Nat.reduceEqDiff, reduceCtorEq, false_and, and_false, if_false]; exact h.g_asksR)
  (g_asksN := by simp only [ur_ap, cc_ne, cc_n0, cc_0n, Nat.reduceEqDiff, reduceCtorEq, false_and, and_false, if_false]; exact h.g_asksN)
  (g_benchesR := by simp only [ur_ap, cc_ne, cc_n0, cc_0n, Nat.reduceEqDiff, reduceCtorEq, false_and, and_false, if_false]; exact h.g_benchesR)
  (g_textsR := by simp only [ur_ap, cc_ne, cc_n0, cc_0n, Nat.reduceEqDiff, reduceCtorEq, false_and, and_false, if_false]; exact h.g_textsR)
  (g_orderR := by simp only [ur_ap, cc_ne, cc_n0, cc_0n, Nat.reduceEqDiff, reduceCtorEq, false_and, and_false, if_false]; exact h.g_orderR)
  (g_bestR := by simp only [ur_ap, cc_ne, cc_n0, cc_0n, Nat.reduceEqDiff, reduceCtorEq, false_and, and_false, if_false]; exact h.g_bestR)
  (g_ringR := by simp only [ur_ap, cc_ne, cc_n0, cc_0n, Nat.reduceEqDiff, reduceCtorEq, false_and, and_false, if_false]; exact h.g_ringR)
  (g_draft := by simp only [ur_ap, and_self, if_true]; exact hv)
  (g_benN := by simp only [ur_ap, cc_ne, cc_n0, cc_0n, Nat.reduceEqDiff, reduceCtorEq, false_and, and_false, if_false]; exact h.g_benN)
  (g_benY := by simp only [ur_ap, cc_ne, cc_n0, cc_0n, Nat.reduceEqDiff, reduceCtorEq, false_and, and_false, if_false]; exact h.g_benY)
end CT
