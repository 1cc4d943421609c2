theorem lcm_b {x y : Int} : -2147483648 ≤ lcm x y ∧ lcm x y ≤ 2147483647 := by unfold lcm; split <;> (try split) <;> omega
theorem lcm_lt {x y : Int} : lcm x y < 0 ↔ x < y := by unfold lcm; split <;> (try split) <;> omega
theorem lcm_ge {x y : Int} : 0 ≤ lcm x y ↔ y ≤ x := by unfold lcm; split <;> (try split) <;> omega
theorem lcm_gt {x y : Int} : 0 < lcm x y ↔ y < x := by unfold lcm; split <;> (try split) <;> omega
theorem lcm_le {x y : Int} : lcm x y ≤ 0 ↔ x ≤ y := by unfold lcm; split <;> (try split) <;> omega
theorem lcm_eq {x y : Int} : lcm x y = 0 ↔ x = y := by unfold lcm; split <;> (try split) <;> omega
/-- a boolean as the machine has it -/
def b01 (p : Prop) [Decidable p] : Int := if p then 1 else 0
theorem b01_b {p : Prop} [Decidable p] : -2147483648 ≤ b01 p ∧ b01 p ≤ 2147483647 := by unfold b01; split <;> omega
theorem b01_eq {p : Prop} [Decidable p] : b01 p = 0 ↔ ¬ p := by unfold b01; split <;> simp_all
theorem b01_ne {p : Prop} [Decidable p] : ¬ b01 p = 0 ↔ p := by unfold b01; split <;> simp_all
theorem b01_t {p : Prop} [Decidable p] (h : p) : b01 p = 1 := if_pos h
theorem b01_f {p : Prop} [Decidable p] (h : ¬ p) : b01 p = 0 := if_neg h
theorem b01_01 {p : Prop} [Decidable p] : b01 p = 0 ∨ b01 p = 1 := by unfold b01; split <;> simp
theorem ri {x y : Int} (h : x = y) : (some (vi x) : Option AV) = some (vi y) := by rw [h]
theorem rl {x y : Int} (h : x = y) : (some (vl x) : Option AV) = some (vl y) := by rw [h]
theorem r1 {p : Prop} [Decidable p] (h : p) : (some (vi 1) : Option AV) = some (vi (b01 p)) := by rw [b01_t h]
theorem r0 {p : Prop} [Decidable p] (h : ¬ p) : (some (vi 0) : Option AV) = some (vi (b01 p)) := by rw [b01_f h]
/-! the cells of the reference: object 57, rows 58 to 87 -/
def moT : List (Int × Nat × Int) := [(57, 8, 0), (58, 100, 9), (59, 100, 9), (60, 100, 54), (61, 100, 54), (62, 100, 54), (63, 101, 37), (64, 101, 37), (65, 100, 10), (66, 100, 10), (67, 100, 10), (68, 100, 10), (69, 101, 60000), (70, 100, 24), (71, 103, 35), (72, 101, 35), (73, 101, 35), (74, 100, 35), (75, 101, 1295), (76, 100, 80), (77, 100, 12), (78, 100, 12), (79, 100, 100), (80, 100, 100), (81, 100, 1200), (82, 101, 1100), (83, 100, 12), (84, 101, 8), (85, 100, 4), (86, 100, 4), (87, 100, 240)]
def moR : List (Int × Int) := [(1, 58), (2, 59), (3, 60), (4, 61), (5, 62), (6, 63), (7, 64), (9, 65), (10, 66), (11, 67), (12, 68), (14, 69), (15, 70), (16, 71), (17, 72), (18, 73), (19, 74), (20, 75), (21, 76), (25, 77), (26, 78), (28, 79), (29, 80), (30, 81), (31, 82), (34, 83), (35, 84), (36, 85), (37, 86), (38, 87)]
def MoS (σ : Sg) : Prop := (∀ q ∈ moT, Is σ q.1 q.2.1 q.2.2) ∧ (∀ q ∈ moR, σ.2.2.2.2 57 q.1 = q.2)
section
variable {σ : Sg} {m : Mm}
theorem is_57 (h : MoS σ) : Is σ 57 8 0 := h.1 (57, 8, 0) (by decide)
theorem is_58 (h : MoS σ) : Is σ 58 100 9 := h.1 (58, 100, 9) (by decide)
theorem is_59 (h : MoS σ) : Is σ 59 100 9 := h.1 (59, 100, 9) (by decide)
theorem is_60 (h : MoS σ) : Is σ 60 100 54 := h.1 (60, 100, 54) (by decide)
theorem is_61 (h : MoS σ) : Is σ 61 100 54 := h.1 (61, 100, 54) (by decide)
theorem is_62 (h : MoS σ) : Is σ 62 100 54 := h.1 (62, 100, 54) (by decide)
theorem is_63 (h : MoS σ) : Is σ 63 101 37 := h.1 (63, 101, 37) (by decide)
theorem is_64 (h : MoS σ) : Is σ 64 101 37 := h.1 (64, 101, 37) (by decide)
theorem is_65 (h : MoS σ) : Is σ 65 100 10 := h.1 (65, 100, 10) (by decide)
theorem is_66 (h : MoS σ) : Is σ 66 100 10 := h.1 (66, 100, 10) (by decide)
theorem is_67 (h : MoS σ) : Is σ 67 100 10 := h.1 (67, 100, 10) (by decide)
theorem is_68 (h : MoS σ) : Is σ 68 100 10 := h.1 (68, 100, 10) (by decide)
theorem is_69 (h : MoS σ) : Is σ 69 101 60000 := h.1 (69, 101, 60000) (by decide)
theorem is_70 (h : MoS σ) : Is σ 70 100 24 := h.1 (70, 100, 24) (by decide)
theorem is_71 (h : MoS σ) : Is σ 71 103 35 := h.1 (71, 103, 35) (by decide)
theorem is_72 (h : MoS σ) : Is σ 72 101 35 := h.1 (72, 101, 35) (by decide)
theorem is_73 (h : MoS σ) : Is σ 73 101 35 := h.1 (73, 101, 35) (by decide)
theorem is_74 (h : MoS σ) : Is σ 74 100 35 := h.1 (74, 100, 35) (by decide)
theorem is_75 (h : MoS σ) : Is σ 75 101 1295 := h.1 (75, 101, 1295) (by decide)
theorem is_76 (h : MoS σ) : Is σ 76 100 80 := h.1 (76, 100, 80) (by decide)
theorem is_77 (h : MoS σ) : Is σ 77 100 12 := h.1 (77, 100, 12) (by decide)
theorem is_78 (h : MoS σ) : Is σ 78 100 12 := h.1 (78, 100, 12) (by decide)
theorem is_79 (h : MoS σ) : Is σ 79 100 100 := h.1 (79, 100, 100) (by decide)
theorem is_80 (h : MoS σ) : Is σ 80 100 100 := h.1 (80, 100, 100) (by decide)
theorem is_81 (h : MoS σ) : Is σ 81 100 1200 := h.1 (81, 100, 1200) (by decide)
theorem is_82 (h : MoS σ) : Is σ 82 101 1100 := h.1 (82, 101, 1100) (by decide)
theorem is_83 (h : MoS σ) : Is σ 83 100 12 := h.1 (83, 100, 12) (by decide)
theorem is_84 (h : MoS σ) : Is σ 84 101 8 := h.1 (84, 101, 8) (by decide)
theorem is_85 (h : MoS σ) : Is σ 85 100 4 := h.1 (85, 100, 4) (by decide)
theorem is_86 (h : MoS σ) : Is σ 86 100 4 := h.1 (86, 100, 4) (by decide)
theorem is_87 (h : MoS σ) : Is σ 87 100 240 := h.1 (87, 100, 240) (by decide)
theorem rf_57_1 (h : MoS σ) : σ.2.2.2.2 57 1 = 58 := h.2 (1, 58) (by decide)
theorem rf_57_2 (h : MoS σ) : σ.2.2.2.2 57 2 = 59 := h.2 (2, 59) (by decide)
theorem rf_57_3 (h : MoS σ) : σ.2.2.2.2 57 3 = 60 := h.2 (3, 60) (by decide)
theorem rf_57_4 (h : MoS σ) : σ.2.2.2.2 57 4 = 61 := h.2 (4, 61) (by decide)
theorem rf_57_5 (h : MoS σ) : σ.2.2.2.2 57 5 = 62 := h.2 (5, 62) (by decide)
theorem rf_57_6 (h : MoS σ) : σ.2.2.2.2 57 6 = 63 := h.2 (6, 63) (by decide)
theorem rf_57_7 (h : MoS σ) : σ.2.2.2.2 57 7 = 64 := h.2 (7, 64) (by decide)
theorem rf_57_9 (h : MoS σ) : σ.2.2.2.2 57 9 = 65 := h.2 (9, 65) (by decide)
theorem rf_57_10 (h : MoS σ) : σ.2.2.2.2 57 10 = 66 := h.2 (10, 66) (by decide)
theorem rf_57_11 (h : MoS σ) : σ.2.2.2.2 57 11 = 67 := h.2 (11, 67) (by decide)
theorem rf_57_12 (h : MoS σ) : σ.2.2.2.2 57 12 = 68 := h.2 (12, 68) (by decide)
theorem rf_57_14 (h : MoS σ) : σ.2.2.2.2 57 14 = 69 := h.2 (14, 69) (by decide)
theorem rf_57_15 (h : MoS σ) : σ.2.2.2.2 57 15 = 70 := h.2 (15, 70) (by decide)
theorem rf_57_16 (h : MoS σ) : σ.2.2.2.2 57 16 = 71 := h.2 (16, 71) (by decide)
theorem rf_57_17 (h : MoS σ) : σ.2.2.2.2 57 17 = 72 := h.2 (17, 72) (by decide)
theorem rf_57_18 (h : MoS σ) : σ.2.2.2.2 57 18 = 73 := h.2 (18, 73) (by decide)
theorem rf_57_19 (h : MoS σ) : σ.2.2.2.2 57 19 = 74 := h.2 (19, 74) (by decide)
theorem rf_57_20 (h : MoS σ) : σ.2.2.2.2 57 20 = 75 := h.2 (20, 75) (by decide)
theorem rf_57_21 (h : MoS σ) : σ.2.2.2.2 57 21 = 76 := h.2 (21, 76) (by decide)
theorem rf_57_25 (h : MoS σ) : σ.2.2.2.2 57 25 = 77 := h.2 (25, 77) (by decide)
theorem rf_57_26 (h : MoS σ) : σ.2.2.2.2 57 26 = 78 := h.2 (26, 78) (by decide)
theorem rf_57_28 (h : MoS σ) : σ.2.2.2.2 57 28 = 79 := h.2 (28, 79) (by decide)
theorem rf_57_29 (h : MoS σ) : σ.2.2.2.2 57 29 = 80 := h.2 (29, 80) (by decide)
theorem rf_57_30 (h : MoS σ) : σ.2.2.2.2 57 30 = 81 := h.2 (30, 81) (by decide)
theorem rf_57_31 (h : MoS σ) : σ.2.2.2.2 57 31 = 82 := h.2 (31, 82) (by decide)
theorem rf_57_34 (h : MoS σ) : σ.2.2.2.2 57 34 = 83 := h.2 (34, 83) (by decide)
theorem rf_57_35 (h : MoS σ) : σ.2.2.2.2 57 35 = 84 := h.2 (35, 84) (by decide)
theorem rf_57_36 (h : MoS σ) : σ.2.2.2.2 57 36 = 85 := h.2 (36, 85) (by decide)
theorem rf_57_37 (h : MoS σ) : σ.2.2.2.2 57 37 = 86 := h.2 (37, 86) (by decide)
theorem rf_57_38 (h : MoS σ) : σ.2.2.2.2 57 38 = 87 := h.2 (38, 87) (by decide)
end
